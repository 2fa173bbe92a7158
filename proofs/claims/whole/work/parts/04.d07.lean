theorem dX11_coverOf_36 : decode cX11_coverOf 36 = .ok (.iconst (-1), 1) := by decide +kernel
theorem dX11_coverOf_37 : decode cX11_coverOf 37 = .ok (.ixor, 1) := by decide +kernel
theorem dX11_coverOf_38 : decode cX11_coverOf 38 = .ok (.iand, 1) := by decide +kernel
theorem dX11_coverOf_39 : decode cX11_coverOf 39 = .ok (.ifCond .eq 6, 3) := by decide +kernel
theorem dX11_coverOf_42 : decode cX11_coverOf 42 = .ok (.goto 60, 3) := by decide +kernel
theorem dX11_coverOf_45 : decode cX11_coverOf 45 = .ok (.iload_n 3, 1) := by decide +kernel
theorem dX11_coverOf_46 : decode cX11_coverOf 46 = .ok (.istore 4, 2) := by decide +kernel
theorem dX11_coverOf_48 : decode cX11_coverOf 48 = .ok (.iload 4, 2) := by decide +kernel
theorem dX11_coverOf_50 : decode cX11_coverOf 50 = .ok (.ifCond .le 52, 3) := by decide +kernel
theorem dX11_coverOf_53 : decode cX11_coverOf 53 = .ok (.aload_n 0, 1) := by decide +kernel
theorem dX11_coverOf_54 : decode cX11_coverOf 54 = .ok (.getfield 52, 3) := by decide +kernel
theorem dX11_coverOf_57 : decode cX11_coverOf 57 = .ok (.iload 4, 2) := by decide +kernel
theorem dX11_coverOf_59 : decode cX11_coverOf 59 = .ok (.baload, 1) := by decide +kernel
theorem dX11_coverOf_60 : decode cX11_coverOf 60 = .ok (.ifCond .eq 31, 3) := by decide +kernel
theorem dX11_coverOf_63 : decode cX11_coverOf 63 = .ok (.aload_n 0, 1) := by decide +kernel
theorem dX11_coverOf_64 : decode cX11_coverOf 64 = .ok (.getfield 56, 3) := by decide +kernel
theorem dX11_coverOf_67 : decode cX11_coverOf 67 = .ok (.iload_n 3, 1) := by decide +kernel
theorem dX11_coverOf_68 : decode cX11_coverOf 68 = .ok (.aload_n 0, 1) := by decide +kernel
theorem dX11_coverOf_69 : decode cX11_coverOf 69 = .ok (.getfield 56, 3) := by decide +kernel
theorem dX11_coverOf_72 : decode cX11_coverOf 72 = .ok (.iload_n 3, 1) := by decide +kernel
theorem dX11_coverOf_73 : decode cX11_coverOf 73 = .ok (.iaload, 1) := by decide +kernel
theorem dX11_coverOf_74 : decode cX11_coverOf 74 = .ok (.aload_n 0, 1) := by decide +kernel
theorem dX11_coverOf_75 : decode cX11_coverOf 75 = .ok (.getfield 56, 3) := by decide +kernel
theorem dX11_coverOf_78 : decode cX11_coverOf 78 = .ok (.iload_n 3, 1) := by decide +kernel
theorem dX11_coverOf_79 : decode cX11_coverOf 79 = .ok (.iload 4, 2) := by decide +kernel
theorem dX11_coverOf_81 : decode cX11_coverOf 81 = .ok (.iconst (-1), 1) := by decide +kernel
theorem dX11_coverOf_82 : decode cX11_coverOf 82 = .ok (.ixor, 1) := by decide +kernel
theorem dX11_coverOf_83 : decode cX11_coverOf 83 = .ok (.iand, 1) := by decide +kernel
theorem dX11_coverOf_84 : decode cX11_coverOf 84 = .ok (.iaload, 1) := by decide +kernel
theorem dX11_coverOf_85 : decode cX11_coverOf 85 = .ok (.iconst 1, 1) := by decide +kernel
theorem dX11_coverOf_86 : decode cX11_coverOf 86 = .ok (.iadd, 1) := by decide +kernel
theorem dX11_coverOf_87 : decode cX11_coverOf 87 = .ok (.invokestatic 117, 3) := by decide +kernel
theorem dX11_coverOf_90 : decode cX11_coverOf 90 = .ok (.iastore, 1) := by decide +kernel
theorem dX11_coverOf_91 : decode cX11_coverOf 91 = .ok (.iload 4, 2) := by decide +kernel
theorem dX11_coverOf_93 : decode cX11_coverOf 93 = .ok (.iconst 1, 1) := by decide +kernel
theorem dX11_coverOf_94 : decode cX11_coverOf 94 = .ok (.isub, 1) := by decide +kernel
theorem dX11_coverOf_95 : decode cX11_coverOf 95 = .ok (.iload_n 3, 1) := by decide +kernel
theorem dX11_coverOf_96 : decode cX11_coverOf 96 = .ok (.iand, 1) := by decide +kernel
theorem dX11_coverOf_97 : decode cX11_coverOf 97 = .ok (.istore 4, 2) := by decide +kernel
theorem dX11_coverOf_99 : decode cX11_coverOf 99 = .ok (.goto (-51), 3) := by decide +kernel
theorem dX11_coverOf_102 : decode cX11_coverOf 102 = .ok (.iinc 3 1, 3) := by decide +kernel
theorem dX11_coverOf_105 : decode cX11_coverOf 105 = .ok (.goto (-86), 3) := by decide +kernel
theorem dX11_coverOf_108 : decode cX11_coverOf 108 = .ok (.bipush 9, 2) := by decide +kernel
theorem dX11_coverOf_110 : decode cX11_coverOf 110 = .ok (.aload_n 0, 1) := by decide +kernel
theorem dX11_coverOf_111 : decode cX11_coverOf 111 = .ok (.getfield 56, 3) := by decide +kernel
theorem dX11_coverOf_114 : decode cX11_coverOf 114 = .ok (.iload_n 2, 1) := by decide +kernel
theorem dX11_coverOf_115 : decode cX11_coverOf 115 = .ok (.iaload, 1) := by decide +kernel
theorem dX11_coverOf_116 : decode cX11_coverOf 116 = .ok (.invokestatic 117, 3) := by decide +kernel
theorem dX11_coverOf_119 : decode cX11_coverOf 119 = .ok (.ireturn, 1) := by decide +kernel
theorem dX11_cover_0 : decode cX11_cover 0 = .ok (.aload_n 0, 1) := by decide +kernel
theorem dX11_cover_1 : decode cX11_cover 1 = .ok (.iconst 0, 1) := by decide +kernel
theorem dX11_cover_2 : decode cX11_cover 2 = .ok (.putfield 1, 3) := by decide +kernel
theorem dX11_cover_5 : decode cX11_cover 5 = .ok (.aload_n 0, 1) := by decide +kernel
theorem dX11_cover_6 : decode cX11_cover 6 = .ok (.iload_n 1, 1) := by decide +kernel
theorem dX11_cover_7 : decode cX11_cover 7 = .ok (.invokevirtual 163, 3) := by decide +kernel
theorem dX11_cover_10 : decode cX11_cover 10 = .ok (.ifCond .ne 5, 3) := by decide +kernel
theorem dX11_cover_13 : decode cX11_cover 13 = .ok (.iconst (-1), 1) := by decide +kernel
theorem dX11_cover_14 : decode cX11_cover 14 = .ok (.ireturn, 1) := by decide +kernel
theorem dX11_cover_15 : decode cX11_cover 15 = .ok (.aload_n 0, 1) := by decide +kernel
theorem dX11_cover_16 : decode cX11_cover 16 = .ok (.iload_n 1, 1) := by decide +kernel
theorem dX11_cover_17 : decode cX11_cover 17 = .ok (.invokevirtual 179, 3) := by decide +kernel
theorem dX11_cover_20 : decode cX11_cover 20 = .ok (.istore_n 2, 1) := by decide +kernel
theorem dX11_cover_21 : decode cX11_cover 21 = .ok (.iload_n 2, 1) := by decide +kernel
theorem dX11_cover_22 : decode cX11_cover 22 = .ok (.bipush 9, 2) := by decide +kernel
theorem dX11_cover_24 : decode cX11_cover 24 = .ok (.if_icmp .ne 8, 3) := by decide +kernel
theorem dX11_cover_27 : decode cX11_cover 27 = .ok (.bipush (-2), 2) := by decide +kernel
theorem dX11_cover_29 : decode cX11_cover 29 = .ok (.goto 4, 3) := by decide +kernel
theorem dX11_cover_32 : decode cX11_cover 32 = .ok (.iload_n 2, 1) := by decide +kernel
theorem dX11_cover_33 : decode cX11_cover 33 = .ok (.ireturn, 1) := by decide +kernel
theorem dX11_centres_0 : decode cX11_centres 0 = .ok (.aload_n 0, 1) := by decide +kernel
theorem dX11_centres_1 : decode cX11_centres 1 = .ok (.iconst 0, 1) := by decide +kernel
theorem dX11_centres_2 : decode cX11_centres 2 = .ok (.putfield 1, 3) := by decide +kernel
theorem dX11_centres_5 : decode cX11_centres 5 = .ok (.iload_n 1, 1) := by decide +kernel
theorem dX11_centres_6 : decode cX11_centres 6 = .ok (.iconst 1, 1) := by decide +kernel
theorem dX11_centres_7 : decode cX11_centres 7 = .ok (.bipush 8, 2) := by decide +kernel
theorem dX11_centres_9 : decode cX11_centres 9 = .ok (.invokestatic 81, 3) := by decide +kernel
theorem dX11_centres_12 : decode cX11_centres 12 = .ok (.ifCond .eq 11, 3) := by decide +kernel
theorem dX11_centres_15 : decode cX11_centres 15 = .ok (.aload_n 0, 1) := by decide +kernel
theorem dX11_centres_16 : decode cX11_centres 16 = .ok (.iconst 1, 1) := by decide +kernel
theorem dX11_centres_17 : decode cX11_centres 17 = .ok (.invokevirtual 141, 3) := by decide +kernel
theorem dX11_centres_20 : decode cX11_centres 20 = .ok (.ifCond .ne 5, 3) := by decide +kernel
theorem dX11_centres_23 : decode cX11_centres 23 = .ok (.iconst (-1), 1) := by decide +kernel
theorem dX11_centres_24 : decode cX11_centres 24 = .ok (.ireturn, 1) := by decide +kernel
theorem dX11_centres_25 : decode cX11_centres 25 = .ok (.iconst 0, 1) := by decide +kernel
theorem dX11_centres_26 : decode cX11_centres 26 = .ok (.istore_n 2, 1) := by decide +kernel
theorem dX11_centres_27 : decode cX11_centres 27 = .ok (.iload_n 2, 1) := by decide +kernel
theorem dX11_centres_28 : decode cX11_centres 28 = .ok (.bipush 64, 2) := by decide +kernel
theorem dX11_centres_30 : decode cX11_centres 30 = .ok (.if_icmp .ge 20, 3) := by decide +kernel
theorem dX11_centres_33 : decode cX11_centres 33 = .ok (.aload_n 0, 1) := by decide +kernel
theorem dX11_centres_34 : decode cX11_centres 34 = .ok (.iload_n 2, 1) := by decide +kernel
theorem dX11_centres_35 : decode cX11_centres 35 = .ok (.invokevirtual 179, 3) := by decide +kernel
theorem dX11_centres_38 : decode cX11_centres 38 = .ok (.iload_n 1, 1) := by decide +kernel
theorem dX11_centres_39 : decode cX11_centres 39 = .ok (.if_icmp .gt 5, 3) := by decide +kernel
theorem dX11_centres_42 : decode cX11_centres 42 = .ok (.iload_n 2, 1) := by decide +kernel
theorem dX11_centres_43 : decode cX11_centres 43 = .ok (.ireturn, 1) := by decide +kernel
theorem dX11_centres_44 : decode cX11_centres 44 = .ok (.iinc 2 1, 3) := by decide +kernel
theorem dX11_centres_47 : decode cX11_centres 47 = .ok (.goto (-20), 3) := by decide +kernel
theorem dX11_centres_50 : decode cX11_centres 50 = .ok (.iconst (-1), 1) := by decide +kernel
theorem dX11_centres_51 : decode cX11_centres 51 = .ok (.ireturn, 1) := by decide +kernel
theorem dX11_sumOf_0 : decode cX11_sumOf 0 = .ok (.iconst 0, 1) := by decide +kernel
theorem dX11_sumOf_1 : decode cX11_sumOf 1 = .ok (.istore_n 2, 1) := by decide +kernel
theorem dX11_sumOf_2 : decode cX11_sumOf 2 = .ok (.iconst 0, 1) := by decide +kernel
theorem dX11_sumOf_3 : decode cX11_sumOf 3 = .ok (.istore_n 3, 1) := by decide +kernel
theorem dX11_sumOf_4 : decode cX11_sumOf 4 = .ok (.iload_n 3, 1) := by decide +kernel
theorem dX11_sumOf_5 : decode cX11_sumOf 5 = .ok (.aload_n 0, 1) := by decide +kernel
theorem dX11_sumOf_6 : decode cX11_sumOf 6 = .ok (.getfield 85, 3) := by decide +kernel
theorem dX11_sumOf_9 : decode cX11_sumOf 9 = .ok (.if_icmp .ge 33, 3) := by decide +kernel
theorem dX11_sumOf_12 : decode cX11_sumOf 12 = .ok (.aload_n 0, 1) := by decide +kernel
theorem dX11_sumOf_13 : decode cX11_sumOf 13 = .ok (.getfield 27, 3) := by decide +kernel
theorem dX11_sumOf_16 : decode cX11_sumOf 16 = .ok (.iload_n 3, 1) := by decide +kernel
theorem dX11_sumOf_17 : decode cX11_sumOf 17 = .ok (.iaload, 1) := by decide +kernel
theorem dX11_sumOf_18 : decode cX11_sumOf 18 = .ok (.iconst 1, 1) := by decide +kernel
theorem dX11_sumOf_19 : decode cX11_sumOf 19 = .ok (.if_icmp .ne 17, 3) := by decide +kernel
theorem dX11_sumOf_22 : decode cX11_sumOf 22 = .ok (.iload_n 2, 1) := by decide +kernel
theorem dX11_sumOf_23 : decode cX11_sumOf 23 = .ok (.aload_n 0, 1) := by decide +kernel
theorem dX11_sumOf_24 : decode cX11_sumOf 24 = .ok (.getfield 46, 3) := by decide +kernel
theorem dX11_sumOf_27 : decode cX11_sumOf 27 = .ok (.bipush 8, 2) := by decide +kernel
theorem dX11_sumOf_29 : decode cX11_sumOf 29 = .ok (.iload_n 1, 1) := by decide +kernel
theorem dX11_sumOf_30 : decode cX11_sumOf 30 = .ok (.imul, 1) := by decide +kernel
theorem dX11_sumOf_31 : decode cX11_sumOf 31 = .ok (.iload_n 3, 1) := by decide +kernel
theorem dX11_sumOf_32 : decode cX11_sumOf 32 = .ok (.iadd, 1) := by decide +kernel
theorem dX11_sumOf_33 : decode cX11_sumOf 33 = .ok (.baload, 1) := by decide +kernel
theorem dX11_sumOf_34 : decode cX11_sumOf 34 = .ok (.iadd, 1) := by decide +kernel
theorem dX11_sumOf_35 : decode cX11_sumOf 35 = .ok (.istore_n 2, 1) := by decide +kernel
theorem dX11_sumOf_36 : decode cX11_sumOf 36 = .ok (.iinc 3 1, 3) := by decide +kernel
theorem dX11_sumOf_39 : decode cX11_sumOf 39 = .ok (.goto (-35), 3) := by decide +kernel
theorem dX11_sumOf_42 : decode cX11_sumOf 42 = .ok (.iload_n 2, 1) := by decide +kernel
theorem dX11_sumOf_43 : decode cX11_sumOf 43 = .ok (.ireturn, 1) := by decide +kernel
theorem dX11_leastSum_0 : decode cX11_leastSum 0 = .ok (.aload_n 0, 1) := by decide +kernel
theorem dX11_leastSum_1 : decode cX11_leastSum 1 = .ok (.iconst 1, 1) := by decide +kernel
theorem dX11_leastSum_2 : decode cX11_leastSum 2 = .ok (.invokevirtual 141, 3) := by decide +kernel
theorem dX11_leastSum_5 : decode cX11_leastSum 5 = .ok (.ifCond .ne 5, 3) := by decide +kernel
theorem dX11_leastSum_8 : decode cX11_leastSum 8 = .ok (.iconst (-1), 1) := by decide +kernel
theorem dX11_leastSum_9 : decode cX11_leastSum 9 = .ok (.ireturn, 1) := by decide +kernel
theorem dX11_leastSum_10 : decode cX11_leastSum 10 = .ok (.aload_n 0, 1) := by decide +kernel
theorem dX11_leastSum_11 : decode cX11_leastSum 11 = .ok (.invokevirtual 145, 3) := by decide +kernel
theorem dX11_leastSum_14 : decode cX11_leastSum 14 = .ok (.iconst (-1), 1) := by decide +kernel
theorem dX11_leastSum_15 : decode cX11_leastSum 15 = .ok (.istore_n 1, 1) := by decide +kernel
theorem dX11_leastSum_16 : decode cX11_leastSum 16 = .ok (.iconst 0, 1) := by decide +kernel
theorem dX11_leastSum_17 : decode cX11_leastSum 17 = .ok (.istore_n 2, 1) := by decide +kernel
theorem dX11_leastSum_18 : decode cX11_leastSum 18 = .ok (.aload_n 0, 1) := by decide +kernel
theorem dX11_leastSum_19 : decode cX11_leastSum 19 = .ok (.iconst 0, 1) := by decide +kernel
theorem dX11_leastSum_20 : decode cX11_leastSum 20 = .ok (.putfield 182, 3) := by decide +kernel
theorem dX11_leastSum_23 : decode cX11_leastSum 23 = .ok (.iconst 0, 1) := by decide +kernel
theorem dX11_leastSum_24 : decode cX11_leastSum 24 = .ok (.istore_n 3, 1) := by decide +kernel
theorem dX11_leastSum_25 : decode cX11_leastSum 25 = .ok (.iload_n 3, 1) := by decide +kernel
theorem dX11_leastSum_26 : decode cX11_leastSum 26 = .ok (.aload_n 0, 1) := by decide +kernel
theorem dX11_leastSum_27 : decode cX11_leastSum 27 = .ok (.invokevirtual 130, 3) := by decide +kernel
theorem dX11_leastSum_30 : decode cX11_leastSum 30 = .ok (.if_icmp .ge 64, 3) := by decide +kernel
theorem dX11_leastSum_33 : decode cX11_leastSum 33 = .ok (.aload_n 0, 1) := by decide +kernel
theorem dX11_leastSum_34 : decode cX11_leastSum 34 = .ok (.iload_n 3, 1) := by decide +kernel
theorem dX11_leastSum_35 : decode cX11_leastSum 35 = .ok (.invokevirtual 148, 3) := by decide +kernel
theorem dX11_leastSum_38 : decode cX11_leastSum 38 = .ok (.ifCond .ne 6, 3) := by decide +kernel
theorem dX11_leastSum_41 : decode cX11_leastSum 41 = .ok (.goto 47, 3) := by decide +kernel
theorem dX11_leastSum_44 : decode cX11_leastSum 44 = .ok (.aload_n 0, 1) := by decide +kernel
theorem dX11_leastSum_45 : decode cX11_leastSum 45 = .ok (.iload_n 3, 1) := by decide +kernel
theorem dX11_leastSum_46 : decode cX11_leastSum 46 = .ok (.invokevirtual 185, 3) := by decide +kernel
theorem dX11_leastSum_49 : decode cX11_leastSum 49 = .ok (.istore 4, 2) := by decide +kernel
theorem dX11_leastSum_51 : decode cX11_leastSum 51 = .ok (.iload_n 1, 1) := by decide +kernel
theorem dX11_leastSum_52 : decode cX11_leastSum 52 = .ok (.iconst (-1), 1) := by decide +kernel
theorem dX11_leastSum_53 : decode cX11_leastSum 53 = .ok (.if_icmp .eq 9, 3) := by decide +kernel
theorem dX11_leastSum_56 : decode cX11_leastSum 56 = .ok (.iload 4, 2) := by decide +kernel
theorem dX11_leastSum_58 : decode cX11_leastSum 58 = .ok (.iload_n 2, 1) := by decide +kernel
theorem dX11_leastSum_59 : decode cX11_leastSum 59 = .ok (.if_icmp .ge 13, 3) := by decide +kernel
theorem dX11_leastSum_62 : decode cX11_leastSum 62 = .ok (.iload_n 3, 1) := by decide +kernel
theorem dX11_leastSum_63 : decode cX11_leastSum 63 = .ok (.istore_n 1, 1) := by decide +kernel
theorem dX11_leastSum_64 : decode cX11_leastSum 64 = .ok (.iload 4, 2) := by decide +kernel
theorem dX11_leastSum_66 : decode cX11_leastSum 66 = .ok (.istore_n 2, 1) := by decide +kernel
theorem dX11_leastSum_67 : decode cX11_leastSum 67 = .ok (.aload_n 0, 1) := by decide +kernel
theorem dX11_leastSum_68 : decode cX11_leastSum 68 = .ok (.iconst 0, 1) := by decide +kernel
theorem dX11_leastSum_69 : decode cX11_leastSum 69 = .ok (.putfield 182, 3) := by decide +kernel
theorem dX11_leastSum_72 : decode cX11_leastSum 72 = .ok (.iload 4, 2) := by decide +kernel
theorem dX11_leastSum_74 : decode cX11_leastSum 74 = .ok (.iload_n 2, 1) := by decide +kernel
theorem dX11_leastSum_75 : decode cX11_leastSum 75 = .ok (.if_icmp .ne 13, 3) := by decide +kernel
theorem dX11_leastSum_78 : decode cX11_leastSum 78 = .ok (.aload_n 0, 1) := by decide +kernel
theorem dX11_leastSum_79 : decode cX11_leastSum 79 = .ok (.dup, 1) := by decide +kernel
theorem dX11_leastSum_80 : decode cX11_leastSum 80 = .ok (.getfield 182, 3) := by decide +kernel
theorem dX11_leastSum_83 : decode cX11_leastSum 83 = .ok (.iconst 1, 1) := by decide +kernel
theorem dX11_leastSum_84 : decode cX11_leastSum 84 = .ok (.iadd, 1) := by decide +kernel
theorem dX11_leastSum_85 : decode cX11_leastSum 85 = .ok (.putfield 182, 3) := by decide +kernel
theorem dX11_leastSum_88 : decode cX11_leastSum 88 = .ok (.iinc 3 1, 3) := by decide +kernel
theorem dX11_leastSum_91 : decode cX11_leastSum 91 = .ok (.goto (-66), 3) := by decide +kernel
theorem dX11_leastSum_94 : decode cX11_leastSum 94 = .ok (.iload_n 1, 1) := by decide +kernel
theorem dX11_leastSum_95 : decode cX11_leastSum 95 = .ok (.ireturn, 1) := by decide +kernel
theorem dX11_median_0 : decode cX11_median 0 = .ok (.aload_n 0, 1) := by decide +kernel
theorem dX11_median_1 : decode cX11_median 1 = .ok (.iconst 0, 1) := by decide +kernel
theorem dX11_median_2 : decode cX11_median 2 = .ok (.putfield 1, 3) := by decide +kernel
theorem dX11_median_5 : decode cX11_median 5 = .ok (.aload_n 0, 1) := by decide +kernel
theorem dX11_median_6 : decode cX11_median 6 = .ok (.invokevirtual 188, 3) := by decide +kernel
theorem dX11_median_9 : decode cX11_median 9 = .ok (.istore_n 1, 1) := by decide +kernel
theorem dX11_median_10 : decode cX11_median 10 = .ok (.iload_n 1, 1) := by decide +kernel
theorem dX11_median_11 : decode cX11_median 11 = .ok (.iconst (-1), 1) := by decide +kernel
theorem dX11_median_12 : decode cX11_median 12 = .ok (.if_icmp .ne 7, 3) := by decide +kernel
theorem dX11_median_15 : decode cX11_median 15 = .ok (.iconst (-1), 1) := by decide +kernel
theorem dX11_median_16 : decode cX11_median 16 = .ok (.goto 8, 3) := by decide +kernel
theorem dX11_median_19 : decode cX11_median 19 = .ok (.aload_n 0, 1) := by decide +kernel
theorem dX11_median_20 : decode cX11_median 20 = .ok (.iload_n 1, 1) := by decide +kernel
theorem dX11_median_21 : decode cX11_median 21 = .ok (.invokevirtual 185, 3) := by decide +kernel
theorem dX11_median_24 : decode cX11_median 24 = .ok (.ireturn, 1) := by decide +kernel
theorem dX11_medianAt_0 : decode cX11_medianAt 0 = .ok (.aload_n 0, 1) := by decide +kernel
theorem dX11_medianAt_1 : decode cX11_medianAt 1 = .ok (.iconst 0, 1) := by decide +kernel
theorem dX11_medianAt_2 : decode cX11_medianAt 2 = .ok (.putfield 1, 3) := by decide +kernel
theorem dX11_medianAt_5 : decode cX11_medianAt 5 = .ok (.aload_n 0, 1) := by decide +kernel
theorem dX11_medianAt_6 : decode cX11_medianAt 6 = .ok (.aload_n 0, 1) := by decide +kernel
theorem dX11_medianAt_7 : decode cX11_medianAt 7 = .ok (.invokevirtual 188, 3) := by decide +kernel
theorem dX11_medianAt_10 : decode cX11_medianAt 10 = .ok (.iload_n 1, 1) := by decide +kernel
theorem dX11_medianAt_11 : decode cX11_medianAt 11 = .ok (.invokevirtual 160, 3) := by decide +kernel
theorem dX11_medianAt_14 : decode cX11_medianAt 14 = .ok (.ireturn, 1) := by decide +kernel
theorem dX11_medians_0 : decode cX11_medians 0 = .ok (.aload_n 0, 1) := by decide +kernel
theorem dX11_medians_1 : decode cX11_medians 1 = .ok (.iconst 0, 1) := by decide +kernel
theorem dX11_medians_2 : decode cX11_medians 2 = .ok (.putfield 1, 3) := by decide +kernel
theorem dX11_medians_5 : decode cX11_medians 5 = .ok (.aload_n 0, 1) := by decide +kernel
theorem dX11_medians_6 : decode cX11_medians 6 = .ok (.invokevirtual 188, 3) := by decide +kernel
theorem dX11_medians_9 : decode cX11_medians 9 = .ok (.iconst (-1), 1) := by decide +kernel
theorem dX11_medians_10 : decode cX11_medians 10 = .ok (.if_icmp .ne 7, 3) := by decide +kernel
theorem dX11_medians_13 : decode cX11_medians 13 = .ok (.iconst (-1), 1) := by decide +kernel
theorem dX11_medians_14 : decode cX11_medians 14 = .ok (.goto 7, 3) := by decide +kernel
theorem dX11_medians_17 : decode cX11_medians 17 = .ok (.aload_n 0, 1) := by decide +kernel
theorem dX11_medians_18 : decode cX11_medians 18 = .ok (.getfield 182, 3) := by decide +kernel
theorem dX11_medians_21 : decode cX11_medians 21 = .ok (.ireturn, 1) := by decide +kernel
theorem dX11_edits_0 : decode cX11_edits 0 = .ok (.iconst 0, 1) := by decide +kernel
theorem dX11_edits_1 : decode cX11_edits 1 = .ok (.istore 7, 2) := by decide +kernel
theorem dX11_edits_3 : decode cX11_edits 3 = .ok (.iload 7, 2) := by decide +kernel
theorem dX11_edits_5 : decode cX11_edits 5 = .ok (.iload_n 3, 1) := by decide +kernel
theorem dX11_edits_6 : decode cX11_edits 6 = .ok (.if_icmp .gt 171, 3) := by decide +kernel
theorem dX11_edits_9 : decode cX11_edits 9 = .ok (.iconst 0, 1) := by decide +kernel
theorem dX11_edits_10 : decode cX11_edits 10 = .ok (.istore 8, 2) := by decide +kernel
theorem dX11_edits_12 : decode cX11_edits 12 = .ok (.iload 8, 2) := by decide +kernel
theorem dX11_edits_14 : decode cX11_edits 14 = .ok (.iload 6, 2) := by decide +kernel
theorem dX11_edits_16 : decode cX11_edits 16 = .ok (.if_icmp .gt 155, 3) := by decide +kernel
theorem dX11_edits_19 : decode cX11_edits 19 = .ok (.iload 7, 2) := by decide +kernel
theorem dX11_edits_21 : decode cX11_edits 21 = .ok (.ifCond .ne 13, 3) := by decide +kernel
theorem dX11_edits_24 : decode cX11_edits 24 = .ok (.aload_n 0, 1) := by decide +kernel
theorem dX11_edits_25 : decode cX11_edits 25 = .ok (.getfield 20, 3) := by decide +kernel
theorem dX11_edits_28 : decode cX11_edits 28 = .ok (.iload 8, 2) := by decide +kernel
theorem dX11_edits_30 : decode cX11_edits 30 = .ok (.imul, 1) := by decide +kernel
theorem dX11_edits_31 : decode cX11_edits 31 = .ok (.goto 62, 3) := by decide +kernel
theorem dX11_edits_34 : decode cX11_edits 34 = .ok (.iload 8, 2) := by decide +kernel
theorem dX11_edits_36 : decode cX11_edits 36 = .ok (.ifCond .ne 13, 3) := by decide +kernel
theorem dX11_edits_39 : decode cX11_edits 39 = .ok (.aload_n 0, 1) := by decide +kernel
theorem dX11_edits_40 : decode cX11_edits 40 = .ok (.getfield 20, 3) := by decide +kernel
theorem dX11_edits_43 : decode cX11_edits 43 = .ok (.iload 7, 2) := by decide +kernel
theorem dX11_edits_45 : decode cX11_edits 45 = .ok (.imul, 1) := by decide +kernel
theorem dX11_edits_46 : decode cX11_edits 46 = .ok (.goto 47, 3) := by decide +kernel
theorem dX11_edits_49 : decode cX11_edits 49 = .ok (.aload_n 0, 1) := by decide +kernel
theorem dX11_edits_50 : decode cX11_edits 50 = .ok (.getfield 59, 3) := by decide +kernel
theorem dX11_edits_53 : decode cX11_edits 53 = .ok (.bipush 9, 2) := by decide +kernel
theorem dX11_edits_55 : decode cX11_edits 55 = .ok (.iload 7, 2) := by decide +kernel
theorem dX11_edits_57 : decode cX11_edits 57 = .ok (.iconst 1, 1) := by decide +kernel
theorem dX11_edits_58 : decode cX11_edits 58 = .ok (.isub, 1) := by decide +kernel
theorem dX11_edits_59 : decode cX11_edits 59 = .ok (.imul, 1) := by decide +kernel
theorem dX11_edits_60 : decode cX11_edits 60 = .ok (.iload 8, 2) := by decide +kernel
theorem dX11_edits_62 : decode cX11_edits 62 = .ok (.iadd, 1) := by decide +kernel
theorem dX11_edits_63 : decode cX11_edits 63 = .ok (.iconst 1, 1) := by decide +kernel
theorem dX11_edits_64 : decode cX11_edits 64 = .ok (.isub, 1) := by decide +kernel
theorem dX11_edits_65 : decode cX11_edits 65 = .ok (.iaload, 1) := by decide +kernel
theorem dX11_edits_66 : decode cX11_edits 66 = .ok (.aload_n 0, 1) := by decide +kernel
theorem dX11_edits_67 : decode cX11_edits 67 = .ok (.getfield 16, 3) := by decide +kernel
theorem dX11_edits_70 : decode cX11_edits 70 = .ok (.iconst 4, 1) := by decide +kernel
theorem dX11_edits_71 : decode cX11_edits 71 = .ok (.aload_n 1, 1) := by decide +kernel
theorem dX11_edits_72 : decode cX11_edits 72 = .ok (.iload_n 2, 1) := by decide +kernel
theorem dX11_edits_73 : decode cX11_edits 73 = .ok (.iload 7, 2) := by decide +kernel
theorem dX11_edits_75 : decode cX11_edits 75 = .ok (.iadd, 1) := by decide +kernel
theorem dX11_edits_76 : decode cX11_edits 76 = .ok (.iconst 1, 1) := by decide +kernel
theorem dX11_edits_77 : decode cX11_edits 77 = .ok (.isub, 1) := by decide +kernel
theorem dX11_edits_78 : decode cX11_edits 78 = .ok (.baload, 1) := by decide +kernel
theorem dX11_edits_79 : decode cX11_edits 79 = .ok (.imul, 1) := by decide +kernel
theorem dX11_edits_80 : decode cX11_edits 80 = .ok (.aload 4, 2) := by decide +kernel
theorem dX11_edits_82 : decode cX11_edits 82 = .ok (.iload 5, 2) := by decide +kernel
theorem dX11_edits_84 : decode cX11_edits 84 = .ok (.iload 8, 2) := by decide +kernel
theorem dX11_edits_86 : decode cX11_edits 86 = .ok (.iadd, 1) := by decide +kernel
theorem dX11_edits_87 : decode cX11_edits 87 = .ok (.iconst 1, 1) := by decide +kernel
theorem dX11_edits_88 : decode cX11_edits 88 = .ok (.isub, 1) := by decide +kernel
theorem dX11_edits_89 : decode cX11_edits 89 = .ok (.baload, 1) := by decide +kernel
theorem dX11_edits_90 : decode cX11_edits 90 = .ok (.iadd, 1) := by decide +kernel
theorem dX11_edits_91 : decode cX11_edits 91 = .ok (.iaload, 1) := by decide +kernel
theorem dX11_edits_92 : decode cX11_edits 92 = .ok (.iadd, 1) := by decide +kernel
theorem dX11_edits_93 : decode cX11_edits 93 = .ok (.istore 9, 2) := by decide +kernel
theorem dX11_edits_95 : decode cX11_edits 95 = .ok (.iload 7, 2) := by decide +kernel
theorem dX11_edits_97 : decode cX11_edits 97 = .ok (.ifCond .le 53, 3) := by decide +kernel
theorem dX11_edits_100 : decode cX11_edits 100 = .ok (.iload 8, 2) := by decide +kernel
theorem dX11_edits_102 : decode cX11_edits 102 = .ok (.ifCond .le 48, 3) := by decide +kernel
theorem dX11_edits_105 : decode cX11_edits 105 = .ok (.iload 9, 2) := by decide +kernel
theorem dX11_edits_107 : decode cX11_edits 107 = .ok (.aload_n 0, 1) := by decide +kernel
theorem dX11_edits_108 : decode cX11_edits 108 = .ok (.getfield 20, 3) := by decide +kernel
theorem dX11_edits_111 : decode cX11_edits 111 = .ok (.aload_n 0, 1) := by decide +kernel
theorem dX11_edits_112 : decode cX11_edits 112 = .ok (.getfield 59, 3) := by decide +kernel
theorem dX11_edits_115 : decode cX11_edits 115 = .ok (.bipush 9, 2) := by decide +kernel
theorem dX11_edits_117 : decode cX11_edits 117 = .ok (.iload 7, 2) := by decide +kernel
theorem dX11_edits_119 : decode cX11_edits 119 = .ok (.iconst 1, 1) := by decide +kernel
theorem dX11_edits_120 : decode cX11_edits 120 = .ok (.isub, 1) := by decide +kernel
theorem dX11_edits_121 : decode cX11_edits 121 = .ok (.imul, 1) := by decide +kernel
theorem dX11_edits_122 : decode cX11_edits 122 = .ok (.iload 8, 2) := by decide +kernel
theorem dX11_edits_124 : decode cX11_edits 124 = .ok (.iadd, 1) := by decide +kernel
theorem dX11_edits_125 : decode cX11_edits 125 = .ok (.iaload, 1) := by decide +kernel
theorem dX11_edits_126 : decode cX11_edits 126 = .ok (.aload_n 0, 1) := by decide +kernel
theorem dX11_edits_127 : decode cX11_edits 127 = .ok (.getfield 59, 3) := by decide +kernel
theorem dX11_edits_130 : decode cX11_edits 130 = .ok (.bipush 9, 2) := by decide +kernel
theorem dX11_edits_132 : decode cX11_edits 132 = .ok (.iload 7, 2) := by decide +kernel
theorem dX11_edits_134 : decode cX11_edits 134 = .ok (.imul, 1) := by decide +kernel
theorem dX11_edits_135 : decode cX11_edits 135 = .ok (.iload 8, 2) := by decide +kernel
theorem dX11_edits_137 : decode cX11_edits 137 = .ok (.iadd, 1) := by decide +kernel
theorem dX11_edits_138 : decode cX11_edits 138 = .ok (.iconst 1, 1) := by decide +kernel
theorem dX11_edits_139 : decode cX11_edits 139 = .ok (.isub, 1) := by decide +kernel
theorem dX11_edits_140 : decode cX11_edits 140 = .ok (.iaload, 1) := by decide +kernel
theorem dX11_edits_141 : decode cX11_edits 141 = .ok (.invokestatic 117, 3) := by decide +kernel
theorem dX11_edits_144 : decode cX11_edits 144 = .ok (.iadd, 1) := by decide +kernel
theorem dX11_edits_145 : decode cX11_edits 145 = .ok (.invokestatic 117, 3) := by decide +kernel
theorem dX11_edits_148 : decode cX11_edits 148 = .ok (.istore 9, 2) := by decide +kernel
theorem dX11_edits_150 : decode cX11_edits 150 = .ok (.aload_n 0, 1) := by decide +kernel
theorem dX11_edits_151 : decode cX11_edits 151 = .ok (.getfield 59, 3) := by decide +kernel
theorem dX11_edits_154 : decode cX11_edits 154 = .ok (.bipush 9, 2) := by decide +kernel
theorem dX11_edits_156 : decode cX11_edits 156 = .ok (.iload 7, 2) := by decide +kernel
theorem dX11_edits_158 : decode cX11_edits 158 = .ok (.imul, 1) := by decide +kernel
theorem dX11_edits_159 : decode cX11_edits 159 = .ok (.iload 8, 2) := by decide +kernel
theorem dX11_edits_161 : decode cX11_edits 161 = .ok (.iadd, 1) := by decide +kernel
theorem dX11_edits_162 : decode cX11_edits 162 = .ok (.iload 9, 2) := by decide +kernel
theorem dX11_edits_164 : decode cX11_edits 164 = .ok (.iastore, 1) := by decide +kernel
theorem dX11_edits_165 : decode cX11_edits 165 = .ok (.iinc 8 1, 3) := by decide +kernel
theorem dX11_edits_168 : decode cX11_edits 168 = .ok (.goto (-156), 3) := by decide +kernel
theorem dX11_edits_171 : decode cX11_edits 171 = .ok (.iinc 7 1, 3) := by decide +kernel
theorem dX11_edits_174 : decode cX11_edits 174 = .ok (.goto (-171), 3) := by decide +kernel
theorem dX11_edits_177 : decode cX11_edits 177 = .ok (.aload_n 0, 1) := by decide +kernel
theorem dX11_edits_178 : decode cX11_edits 178 = .ok (.getfield 59, 3) := by decide +kernel
theorem dX11_edits_181 : decode cX11_edits 181 = .ok (.bipush 9, 2) := by decide +kernel
theorem dX11_edits_183 : decode cX11_edits 183 = .ok (.iload_n 3, 1) := by decide +kernel
theorem dX11_edits_184 : decode cX11_edits 184 = .ok (.imul, 1) := by decide +kernel
theorem dX11_edits_185 : decode cX11_edits 185 = .ok (.iload 6, 2) := by decide +kernel
theorem dX11_edits_187 : decode cX11_edits 187 = .ok (.iadd, 1) := by decide +kernel
theorem dX11_edits_188 : decode cX11_edits 188 = .ok (.iaload, 1) := by decide +kernel
theorem dX11_edits_189 : decode cX11_edits 189 = .ok (.ireturn, 1) := by decide +kernel
theorem dX11_edits__0 : decode cX11_edits_ 0 = .ok (.aload_n 0, 1) := by decide +kernel
theorem dX11_edits__1 : decode cX11_edits_ 1 = .ok (.iconst 0, 1) := by decide +kernel
theorem dX11_edits__2 : decode cX11_edits_ 2 = .ok (.putfield 1, 3) := by decide +kernel
theorem dX11_edits__5 : decode cX11_edits_ 5 = .ok (.aload_n 0, 1) := by decide +kernel
theorem dX11_edits__6 : decode cX11_edits_ 6 = .ok (.iload_n 1, 1) := by decide +kernel
theorem dX11_edits__7 : decode cX11_edits_ 7 = .ok (.invokevirtual 113, 3) := by decide +kernel
theorem dX11_edits__10 : decode cX11_edits_ 10 = .ok (.ifCond .eq 42, 3) := by decide +kernel
theorem dX11_edits__13 : decode cX11_edits_ 13 = .ok (.aload_n 0, 1) := by decide +kernel
theorem dX11_edits__14 : decode cX11_edits_ 14 = .ok (.iload_n 2, 1) := by decide +kernel
theorem dX11_edits__15 : decode cX11_edits_ 15 = .ok (.invokevirtual 113, 3) := by decide +kernel
theorem dX11_edits__18 : decode cX11_edits_ 18 = .ok (.ifCond .eq 34, 3) := by decide +kernel
theorem dX11_edits__21 : decode cX11_edits_ 21 = .ok (.aload_n 0, 1) := by decide +kernel
theorem dX11_edits__22 : decode cX11_edits_ 22 = .ok (.aload_n 0, 1) := by decide +kernel
theorem dX11_edits__23 : decode cX11_edits_ 23 = .ok (.getfield 23, 3) := by decide +kernel
theorem dX11_edits__26 : decode cX11_edits_ 26 = .ok (.bipush 7, 2) := by decide +kernel
theorem dX11_edits__28 : decode cX11_edits_ 28 = .ok (.iload_n 1, 1) := by decide +kernel
theorem dX11_edits__29 : decode cX11_edits_ 29 = .ok (.imul, 1) := by decide +kernel
theorem dX11_edits__30 : decode cX11_edits_ 30 = .ok (.aload_n 0, 1) := by decide +kernel
theorem dX11_edits__31 : decode cX11_edits_ 31 = .ok (.getfield 110, 3) := by decide +kernel
theorem dX11_edits__34 : decode cX11_edits_ 34 = .ok (.aload_n 0, 1) := by decide +kernel
theorem dX11_edits__35 : decode cX11_edits_ 35 = .ok (.getfield 23, 3) := by decide +kernel
theorem dX11_edits__38 : decode cX11_edits_ 38 = .ok (.bipush 7, 2) := by decide +kernel
theorem dX11_edits__40 : decode cX11_edits_ 40 = .ok (.iload_n 2, 1) := by decide +kernel
theorem dX11_edits__41 : decode cX11_edits_ 41 = .ok (.imul, 1) := by decide +kernel
theorem dX11_edits__42 : decode cX11_edits_ 42 = .ok (.aload_n 0, 1) := by decide +kernel
theorem dX11_edits__43 : decode cX11_edits_ 43 = .ok (.getfield 110, 3) := by decide +kernel
theorem dX11_edits__46 : decode cX11_edits_ 46 = .ok (.invokevirtual 191, 3) := by decide +kernel
theorem dX11_edits__49 : decode cX11_edits_ 49 = .ok (.goto 4, 3) := by decide +kernel
theorem dX11_edits__52 : decode cX11_edits_ 52 = .ok (.iconst (-1), 1) := by decide +kernel
theorem dX11_edits__53 : decode cX11_edits_ 53 = .ok (.ireturn, 1) := by decide +kernel
theorem dX11_editsFrom_0 : decode cX11_editsFrom 0 = .ok (.aload_n 0, 1) := by decide +kernel
theorem dX11_editsFrom_1 : decode cX11_editsFrom 1 = .ok (.iconst 0, 1) := by decide +kernel
theorem dX11_editsFrom_2 : decode cX11_editsFrom 2 = .ok (.putfield 1, 3) := by decide +kernel
theorem dX11_editsFrom_5 : decode cX11_editsFrom 5 = .ok (.aload_n 0, 1) := by decide +kernel
theorem dX11_editsFrom_6 : decode cX11_editsFrom 6 = .ok (.iconst 1, 1) := by decide +kernel
theorem dX11_editsFrom_7 : decode cX11_editsFrom 7 = .ok (.bipush 8, 2) := by decide +kernel
theorem dX11_editsFrom_9 : decode cX11_editsFrom 9 = .ok (.invokevirtual 106, 3) := by decide +kernel
theorem dX11_editsFrom_12 : decode cX11_editsFrom 12 = .ok (.istore_n 2, 1) := by decide +kernel
theorem dX11_editsFrom_13 : decode cX11_editsFrom 13 = .ok (.iload_n 2, 1) := by decide +kernel
theorem dX11_editsFrom_14 : decode cX11_editsFrom 14 = .ok (.ifCond .eq 39, 3) := by decide +kernel
theorem dX11_editsFrom_17 : decode cX11_editsFrom 17 = .ok (.aload_n 0, 1) := by decide +kernel
theorem dX11_editsFrom_18 : decode cX11_editsFrom 18 = .ok (.iload_n 1, 1) := by decide +kernel
theorem dX11_editsFrom_19 : decode cX11_editsFrom 19 = .ok (.invokevirtual 113, 3) := by decide +kernel
theorem dX11_editsFrom_22 : decode cX11_editsFrom 22 = .ok (.ifCond .eq 31, 3) := by decide +kernel
theorem dX11_editsFrom_25 : decode cX11_editsFrom 25 = .ok (.aload_n 0, 1) := by decide +kernel
theorem dX11_editsFrom_26 : decode cX11_editsFrom 26 = .ok (.aload_n 0, 1) := by decide +kernel
theorem dX11_editsFrom_27 : decode cX11_editsFrom 27 = .ok (.getfield 39, 3) := by decide +kernel
theorem dX11_editsFrom_30 : decode cX11_editsFrom 30 = .ok (.iconst 0, 1) := by decide +kernel
theorem dX11_editsFrom_31 : decode cX11_editsFrom 31 = .ok (.aload_n 0, 1) := by decide +kernel
theorem dX11_editsFrom_32 : decode cX11_editsFrom 32 = .ok (.getfield 103, 3) := by decide +kernel
theorem dX11_editsFrom_35 : decode cX11_editsFrom 35 = .ok (.aload_n 0, 1) := by decide +kernel
theorem dX11_editsFrom_36 : decode cX11_editsFrom 36 = .ok (.getfield 23, 3) := by decide +kernel
theorem dX11_editsFrom_39 : decode cX11_editsFrom 39 = .ok (.bipush 7, 2) := by decide +kernel
theorem dX11_editsFrom_41 : decode cX11_editsFrom 41 = .ok (.iload_n 1, 1) := by decide +kernel
theorem dX11_editsFrom_42 : decode cX11_editsFrom 42 = .ok (.imul, 1) := by decide +kernel
theorem dX11_editsFrom_43 : decode cX11_editsFrom 43 = .ok (.aload_n 0, 1) := by decide +kernel
theorem dX11_editsFrom_44 : decode cX11_editsFrom 44 = .ok (.getfield 110, 3) := by decide +kernel
theorem dX11_editsFrom_47 : decode cX11_editsFrom 47 = .ok (.invokevirtual 191, 3) := by decide +kernel
theorem dX11_editsFrom_50 : decode cX11_editsFrom 50 = .ok (.goto 4, 3) := by decide +kernel
theorem dX11_editsFrom_53 : decode cX11_editsFrom 53 = .ok (.iconst (-1), 1) := by decide +kernel
theorem dX11_editsFrom_54 : decode cX11_editsFrom 54 = .ok (.ireturn, 1) := by decide +kernel
theorem dX11_goesOn_0 : decode cX11_goesOn 0 = .ok (.bipush 81, 2) := by decide +kernel
theorem dX11_goesOn_2 : decode cX11_goesOn 2 = .ok (.iload_n 1, 1) := by decide +kernel
theorem dX11_goesOn_3 : decode cX11_goesOn 3 = .ok (.imul, 1) := by decide +kernel
theorem dX11_goesOn_4 : decode cX11_goesOn 4 = .ok (.bipush 9, 2) := by decide +kernel
theorem dX11_goesOn_6 : decode cX11_goesOn 6 = .ok (.iload_n 2, 1) := by decide +kernel
theorem dX11_goesOn_7 : decode cX11_goesOn 7 = .ok (.imul, 1) := by decide +kernel
theorem dX11_goesOn_8 : decode cX11_goesOn 8 = .ok (.iadd, 1) := by decide +kernel
theorem dX11_goesOn_9 : decode cX11_goesOn 9 = .ok (.istore_n 3, 1) := by decide +kernel
theorem dX11_goesOn_10 : decode cX11_goesOn 10 = .ok (.iload_n 3, 1) := by decide +kernel
theorem dX11_goesOn_11 : decode cX11_goesOn 11 = .ok (.bipush 9, 2) := by decide +kernel
theorem dX11_goesOn_13 : decode cX11_goesOn 13 = .ok (.isub, 1) := by decide +kernel
theorem dX11_goesOn_14 : decode cX11_goesOn 14 = .ok (.istore 4, 2) := by decide +kernel
theorem dX11_goesOn_16 : decode cX11_goesOn 16 = .ok (.aload_n 0, 1) := by decide +kernel
theorem dX11_goesOn_17 : decode cX11_goesOn 17 = .ok (.getfield 62, 3) := by decide +kernel
theorem dX11_goesOn_20 : decode cX11_goesOn 20 = .ok (.iload_n 3, 1) := by decide +kernel
theorem dX11_goesOn_21 : decode cX11_goesOn 21 = .ok (.aload_n 0, 1) := by decide +kernel
theorem dX11_goesOn_22 : decode cX11_goesOn 22 = .ok (.getfield 20, 3) := by decide +kernel
theorem dX11_goesOn_25 : decode cX11_goesOn 25 = .ok (.iload_n 2, 1) := by decide +kernel
theorem dX11_goesOn_26 : decode cX11_goesOn 26 = .ok (.imul, 1) := by decide +kernel
theorem dX11_goesOn_27 : decode cX11_goesOn 27 = .ok (.iastore, 1) := by decide +kernel
theorem dX11_goesOn_28 : decode cX11_goesOn 28 = .ok (.iconst 1, 1) := by decide +kernel
theorem dX11_goesOn_29 : decode cX11_goesOn 29 = .ok (.istore 5, 2) := by decide +kernel
theorem dX11_goesOn_31 : decode cX11_goesOn 31 = .ok (.iload 5, 2) := by decide +kernel
theorem dX11_goesOn_33 : decode cX11_goesOn 33 = .ok (.aload_n 0, 1) := by decide +kernel
theorem dX11_goesOn_34 : decode cX11_goesOn 34 = .ok (.getfield 110, 3) := by decide +kernel
theorem dX11_goesOn_37 : decode cX11_goesOn 37 = .ok (.if_icmp .gt 97, 3) := by decide +kernel
theorem dX11_goesOn_40 : decode cX11_goesOn 40 = .ok (.aload_n 0, 1) := by decide +kernel
theorem dX11_goesOn_41 : decode cX11_goesOn 41 = .ok (.getfield 62, 3) := by decide +kernel
theorem dX11_goesOn_44 : decode cX11_goesOn 44 = .ok (.iload 4, 2) := by decide +kernel
theorem dX11_goesOn_46 : decode cX11_goesOn 46 = .ok (.iload 5, 2) := by decide +kernel
theorem dX11_goesOn_48 : decode cX11_goesOn 48 = .ok (.iadd, 1) := by decide +kernel
theorem dX11_goesOn_49 : decode cX11_goesOn 49 = .ok (.iconst 1, 1) := by decide +kernel
theorem dX11_goesOn_50 : decode cX11_goesOn 50 = .ok (.isub, 1) := by decide +kernel
theorem dX11_goesOn_51 : decode cX11_goesOn 51 = .ok (.iaload, 1) := by decide +kernel
theorem dX11_goesOn_52 : decode cX11_goesOn 52 = .ok (.aload_n 0, 1) := by decide +kernel
theorem dX11_goesOn_53 : decode cX11_goesOn 53 = .ok (.getfield 16, 3) := by decide +kernel
theorem dX11_goesOn_56 : decode cX11_goesOn 56 = .ok (.iconst 4, 1) := by decide +kernel
theorem dX11_goesOn_57 : decode cX11_goesOn 57 = .ok (.aload_n 0, 1) := by decide +kernel
theorem dX11_goesOn_58 : decode cX11_goesOn 58 = .ok (.getfield 68, 3) := by decide +kernel
theorem dX11_goesOn_61 : decode cX11_goesOn 61 = .ok (.iload_n 2, 1) := by decide +kernel
theorem dX11_goesOn_62 : decode cX11_goesOn 62 = .ok (.iconst 1, 1) := by decide +kernel
theorem dX11_goesOn_63 : decode cX11_goesOn 63 = .ok (.isub, 1) := by decide +kernel
theorem dX11_goesOn_64 : decode cX11_goesOn 64 = .ok (.baload, 1) := by decide +kernel
theorem dX11_goesOn_65 : decode cX11_goesOn 65 = .ok (.imul, 1) := by decide +kernel
theorem dX11_goesOn_66 : decode cX11_goesOn 66 = .ok (.aload_n 0, 1) := by decide +kernel
theorem dX11_goesOn_67 : decode cX11_goesOn 67 = .ok (.getfield 23, 3) := by decide +kernel
theorem dX11_goesOn_70 : decode cX11_goesOn 70 = .ok (.bipush 7, 2) := by decide +kernel
theorem dX11_goesOn_72 : decode cX11_goesOn 72 = .ok (.iload_n 1, 1) := by decide +kernel
theorem dX11_goesOn_73 : decode cX11_goesOn 73 = .ok (.imul, 1) := by decide +kernel
theorem dX11_goesOn_74 : decode cX11_goesOn 74 = .ok (.iload 5, 2) := by decide +kernel
theorem dX11_goesOn_76 : decode cX11_goesOn 76 = .ok (.iadd, 1) := by decide +kernel
theorem dX11_goesOn_77 : decode cX11_goesOn 77 = .ok (.iconst 1, 1) := by decide +kernel
theorem dX11_goesOn_78 : decode cX11_goesOn 78 = .ok (.isub, 1) := by decide +kernel
theorem dX11_goesOn_79 : decode cX11_goesOn 79 = .ok (.baload, 1) := by decide +kernel
theorem dX11_goesOn_80 : decode cX11_goesOn 80 = .ok (.iadd, 1) := by decide +kernel
theorem dX11_goesOn_81 : decode cX11_goesOn 81 = .ok (.iaload, 1) := by decide +kernel
theorem dX11_goesOn_82 : decode cX11_goesOn 82 = .ok (.iadd, 1) := by decide +kernel
theorem dX11_goesOn_83 : decode cX11_goesOn 83 = .ok (.istore 6, 2) := by decide +kernel
theorem dX11_goesOn_85 : decode cX11_goesOn 85 = .ok (.aload_n 0, 1) := by decide +kernel
theorem dX11_goesOn_86 : decode cX11_goesOn 86 = .ok (.getfield 62, 3) := by decide +kernel
theorem dX11_goesOn_89 : decode cX11_goesOn 89 = .ok (.iload_n 3, 1) := by decide +kernel
theorem dX11_goesOn_90 : decode cX11_goesOn 90 = .ok (.iload 5, 2) := by decide +kernel
theorem dX11_goesOn_92 : decode cX11_goesOn 92 = .ok (.iadd, 1) := by decide +kernel
theorem dX11_goesOn_93 : decode cX11_goesOn 93 = .ok (.iload 6, 2) := by decide +kernel
theorem dX11_goesOn_95 : decode cX11_goesOn 95 = .ok (.aload_n 0, 1) := by decide +kernel
theorem dX11_goesOn_96 : decode cX11_goesOn 96 = .ok (.getfield 20, 3) := by decide +kernel
theorem dX11_goesOn_99 : decode cX11_goesOn 99 = .ok (.aload_n 0, 1) := by decide +kernel
theorem dX11_goesOn_100 : decode cX11_goesOn 100 = .ok (.getfield 62, 3) := by decide +kernel
theorem dX11_goesOn_103 : decode cX11_goesOn 103 = .ok (.iload 4, 2) := by decide +kernel
theorem dX11_goesOn_105 : decode cX11_goesOn 105 = .ok (.iload 5, 2) := by decide +kernel
theorem dX11_goesOn_107 : decode cX11_goesOn 107 = .ok (.iadd, 1) := by decide +kernel
theorem dX11_goesOn_108 : decode cX11_goesOn 108 = .ok (.iaload, 1) := by decide +kernel
theorem dX11_goesOn_109 : decode cX11_goesOn 109 = .ok (.aload_n 0, 1) := by decide +kernel
theorem dX11_goesOn_110 : decode cX11_goesOn 110 = .ok (.getfield 62, 3) := by decide +kernel
theorem dX11_goesOn_113 : decode cX11_goesOn 113 = .ok (.iload_n 3, 1) := by decide +kernel
theorem dX11_goesOn_114 : decode cX11_goesOn 114 = .ok (.iload 5, 2) := by decide +kernel
theorem dX11_goesOn_116 : decode cX11_goesOn 116 = .ok (.iadd, 1) := by decide +kernel
theorem dX11_goesOn_117 : decode cX11_goesOn 117 = .ok (.iconst 1, 1) := by decide +kernel
theorem dX11_goesOn_118 : decode cX11_goesOn 118 = .ok (.isub, 1) := by decide +kernel
theorem dX11_goesOn_119 : decode cX11_goesOn 119 = .ok (.iaload, 1) := by decide +kernel
theorem dX11_goesOn_120 : decode cX11_goesOn 120 = .ok (.invokestatic 117, 3) := by decide +kernel
theorem dX11_goesOn_123 : decode cX11_goesOn 123 = .ok (.iadd, 1) := by decide +kernel
theorem dX11_goesOn_124 : decode cX11_goesOn 124 = .ok (.invokestatic 117, 3) := by decide +kernel
theorem dX11_goesOn_127 : decode cX11_goesOn 127 = .ok (.iastore, 1) := by decide +kernel
theorem dX11_goesOn_128 : decode cX11_goesOn 128 = .ok (.iinc 5 1, 3) := by decide +kernel
theorem dX11_goesOn_131 : decode cX11_goesOn 131 = .ok (.goto (-100), 3) := by decide +kernel
theorem dX11_goesOn_134 : decode cX11_goesOn 134 = .ok (.return_, 1) := by decide +kernel
theorem dX11_tries_0 : decode cX11_tries 0 = .ok (.iload_n 1, 1) := by decide +kernel
theorem dX11_tries_1 : decode cX11_tries 1 = .ok (.iload_n 2, 1) := by decide +kernel
theorem dX11_tries_2 : decode cX11_tries 2 = .ok (.if_icmp .ne 113, 3) := by decide +kernel
theorem dX11_tries_5 : decode cX11_tries 5 = .ok (.iconst 0, 1) := by decide +kernel
theorem dX11_tries_6 : decode cX11_tries 6 = .ok (.istore_n 3, 1) := by decide +kernel
theorem dX11_tries_7 : decode cX11_tries 7 = .ok (.iconst 0, 1) := by decide +kernel
theorem dX11_tries_8 : decode cX11_tries 8 = .ok (.istore 4, 2) := by decide +kernel
theorem dX11_tries_10 : decode cX11_tries 10 = .ok (.iload 4, 2) := by decide +kernel
theorem dX11_tries_12 : decode cX11_tries 12 = .ok (.aload_n 0, 1) := by decide +kernel
theorem dX11_tries_13 : decode cX11_tries 13 = .ok (.getfield 85, 3) := by decide +kernel
theorem dX11_tries_16 : decode cX11_tries 16 = .ok (.if_icmp .ge 43, 3) := by decide +kernel
theorem dX11_tries_19 : decode cX11_tries 19 = .ok (.aload_n 0, 1) := by decide +kernel
theorem dX11_tries_20 : decode cX11_tries 20 = .ok (.getfield 27, 3) := by decide +kernel
theorem dX11_tries_23 : decode cX11_tries 23 = .ok (.iload 4, 2) := by decide +kernel
theorem dX11_tries_25 : decode cX11_tries 25 = .ok (.iaload, 1) := by decide +kernel
theorem dX11_tries_26 : decode cX11_tries 26 = .ok (.iconst 1, 1) := by decide +kernel
theorem dX11_tries_27 : decode cX11_tries 27 = .ok (.if_icmp .ne 26, 3) := by decide +kernel
theorem dX11_tries_30 : decode cX11_tries 30 = .ok (.iload_n 3, 1) := by decide +kernel
theorem dX11_tries_31 : decode cX11_tries 31 = .ok (.aload_n 0, 1) := by decide +kernel
theorem dX11_tries_32 : decode cX11_tries 32 = .ok (.getfield 62, 3) := by decide +kernel
theorem dX11_tries_35 : decode cX11_tries 35 = .ok (.bipush 81, 2) := by decide +kernel
theorem dX11_tries_37 : decode cX11_tries 37 = .ok (.iload 4, 2) := by decide +kernel
theorem dX11_tries_39 : decode cX11_tries 39 = .ok (.imul, 1) := by decide +kernel
theorem dX11_tries_40 : decode cX11_tries 40 = .ok (.bipush 9, 2) := by decide +kernel
theorem dX11_tries_42 : decode cX11_tries 42 = .ok (.iload_n 1, 1) := by decide +kernel
theorem dX11_tries_43 : decode cX11_tries 43 = .ok (.imul, 1) := by decide +kernel
theorem dX11_tries_44 : decode cX11_tries 44 = .ok (.iadd, 1) := by decide +kernel
theorem dX11_tries_45 : decode cX11_tries 45 = .ok (.aload_n 0, 1) := by decide +kernel
theorem dX11_tries_46 : decode cX11_tries 46 = .ok (.getfield 110, 3) := by decide +kernel
theorem dX11_tries_49 : decode cX11_tries 49 = .ok (.iadd, 1) := by decide +kernel
theorem dX11_tries_50 : decode cX11_tries 50 = .ok (.iaload, 1) := by decide +kernel
theorem dX11_tries_51 : decode cX11_tries 51 = .ok (.iadd, 1) := by decide +kernel
theorem dX11_tries_52 : decode cX11_tries 52 = .ok (.istore_n 3, 1) := by decide +kernel
theorem dX11_tries_53 : decode cX11_tries 53 = .ok (.iinc 4 1, 3) := by decide +kernel
theorem dX11_tries_56 : decode cX11_tries 56 = .ok (.goto (-46), 3) := by decide +kernel
theorem dX11_tries_59 : decode cX11_tries 59 = .ok (.aload_n 0, 1) := by decide +kernel
theorem dX11_tries_60 : decode cX11_tries 60 = .ok (.getfield 195, 3) := by decide +kernel
theorem dX11_tries_63 : decode cX11_tries 63 = .ok (.ifCond .eq 12, 3) := by decide +kernel
theorem dX11_tries_66 : decode cX11_tries 66 = .ok (.iload_n 3, 1) := by decide +kernel
theorem dX11_tries_67 : decode cX11_tries 67 = .ok (.aload_n 0, 1) := by decide +kernel
theorem dX11_tries_68 : decode cX11_tries 68 = .ok (.getfield 198, 3) := by decide +kernel
theorem dX11_tries_71 : decode cX11_tries 71 = .ok (.if_icmp .lt 4, 3) := by decide +kernel
theorem dX11_tries_74 : decode cX11_tries 74 = .ok (.return_, 1) := by decide +kernel
theorem dX11_tries_75 : decode cX11_tries 75 = .ok (.aload_n 0, 1) := by decide +kernel
theorem dX11_tries_76 : decode cX11_tries 76 = .ok (.iload_n 3, 1) := by decide +kernel
theorem dX11_tries_77 : decode cX11_tries 77 = .ok (.putfield 198, 3) := by decide +kernel
theorem dX11_tries_80 : decode cX11_tries 80 = .ok (.aload_n 0, 1) := by decide +kernel
theorem dX11_tries_81 : decode cX11_tries 81 = .ok (.iload_n 2, 1) := by decide +kernel
theorem dX11_tries_82 : decode cX11_tries 82 = .ok (.putfield 195, 3) := by decide +kernel
theorem dX11_tries_85 : decode cX11_tries 85 = .ok (.iconst 0, 1) := by decide +kernel
theorem dX11_tries_86 : decode cX11_tries 86 = .ok (.istore 4, 2) := by decide +kernel
theorem dX11_tries_88 : decode cX11_tries 88 = .ok (.iload 4, 2) := by decide +kernel
theorem dX11_tries_90 : decode cX11_tries 90 = .ok (.iload_n 2, 1) := by decide +kernel
theorem dX11_tries_91 : decode cX11_tries 91 = .ok (.if_icmp .ge 23, 3) := by decide +kernel
theorem dX11_tries_94 : decode cX11_tries 94 = .ok (.aload_n 0, 1) := by decide +kernel
theorem dX11_tries_95 : decode cX11_tries 95 = .ok (.getfield 65, 3) := by decide +kernel
theorem dX11_tries_98 : decode cX11_tries 98 = .ok (.iload 4, 2) := by decide +kernel
theorem dX11_tries_100 : decode cX11_tries 100 = .ok (.aload_n 0, 1) := by decide +kernel
theorem dX11_tries_101 : decode cX11_tries 101 = .ok (.getfield 68, 3) := by decide +kernel
theorem dX11_tries_104 : decode cX11_tries 104 = .ok (.iload 4, 2) := by decide +kernel
theorem dX11_tries_106 : decode cX11_tries 106 = .ok (.baload, 1) := by decide +kernel
theorem dX11_tries_107 : decode cX11_tries 107 = .ok (.bastore, 1) := by decide +kernel
theorem dX11_tries_108 : decode cX11_tries 108 = .ok (.iinc 4 1, 3) := by decide +kernel
theorem dX11_tries_111 : decode cX11_tries 111 = .ok (.goto (-23), 3) := by decide +kernel
theorem dX11_tries_114 : decode cX11_tries 114 = .ok (.return_, 1) := by decide +kernel
theorem dX11_tries_115 : decode cX11_tries 115 = .ok (.iconst 0, 1) := by decide +kernel
theorem dX11_tries_116 : decode cX11_tries 116 = .ok (.istore_n 3, 1) := by decide +kernel
theorem dX11_tries_117 : decode cX11_tries 117 = .ok (.iload_n 3, 1) := by decide +kernel
theorem dX11_tries_118 : decode cX11_tries 118 = .ok (.aload_n 0, 1) := by decide +kernel
theorem dX11_tries_119 : decode cX11_tries 119 = .ok (.getfield 13, 3) := by decide +kernel
theorem dX11_tries_122 : decode cX11_tries 122 = .ok (.if_icmp .ge 63, 3) := by decide +kernel
theorem dX11_tries_125 : decode cX11_tries 125 = .ok (.aload_n 0, 1) := by decide +kernel
theorem dX11_tries_126 : decode cX11_tries 126 = .ok (.getfield 68, 3) := by decide +kernel
theorem dX11_tries_129 : decode cX11_tries 129 = .ok (.iload_n 1, 1) := by decide +kernel
theorem dX11_tries_130 : decode cX11_tries 130 = .ok (.iload_n 3, 1) := by decide +kernel
theorem dX11_tries_131 : decode cX11_tries 131 = .ok (.i2b, 1) := by decide +kernel
theorem dX11_tries_132 : decode cX11_tries 132 = .ok (.bastore, 1) := by decide +kernel
theorem dX11_tries_133 : decode cX11_tries 133 = .ok (.iconst 0, 1) := by decide +kernel
theorem dX11_tries_134 : decode cX11_tries 134 = .ok (.istore 4, 2) := by decide +kernel
theorem dX11_tries_136 : decode cX11_tries 136 = .ok (.iload 4, 2) := by decide +kernel
theorem dX11_tries_138 : decode cX11_tries 138 = .ok (.aload_n 0, 1) := by decide +kernel
theorem dX11_tries_139 : decode cX11_tries 139 = .ok (.getfield 85, 3) := by decide +kernel
theorem dX11_tries_142 : decode cX11_tries 142 = .ok (.if_icmp .ge 29, 3) := by decide +kernel
theorem dX11_tries_145 : decode cX11_tries 145 = .ok (.aload_n 0, 1) := by decide +kernel
theorem dX11_tries_146 : decode cX11_tries 146 = .ok (.getfield 27, 3) := by decide +kernel
theorem dX11_tries_149 : decode cX11_tries 149 = .ok (.iload 4, 2) := by decide +kernel
theorem dX11_tries_151 : decode cX11_tries 151 = .ok (.iaload, 1) := by decide +kernel
theorem dX11_tries_152 : decode cX11_tries 152 = .ok (.iconst 1, 1) := by decide +kernel
theorem dX11_tries_153 : decode cX11_tries 153 = .ok (.if_icmp .ne 12, 3) := by decide +kernel
theorem dX11_tries_156 : decode cX11_tries 156 = .ok (.aload_n 0, 1) := by decide +kernel
theorem dX11_tries_157 : decode cX11_tries 157 = .ok (.iload 4, 2) := by decide +kernel
theorem dX11_tries_159 : decode cX11_tries 159 = .ok (.iload_n 1, 1) := by decide +kernel
theorem dX11_tries_160 : decode cX11_tries 160 = .ok (.iconst 1, 1) := by decide +kernel
theorem dX11_tries_161 : decode cX11_tries 161 = .ok (.iadd, 1) := by decide +kernel
theorem dX11_tries_162 : decode cX11_tries 162 = .ok (.invokevirtual 201, 3) := by decide +kernel
theorem dX11_tries_165 : decode cX11_tries 165 = .ok (.iinc 4 1, 3) := by decide +kernel
theorem dX11_tries_168 : decode cX11_tries 168 = .ok (.goto (-32), 3) := by decide +kernel
theorem dX11_tries_171 : decode cX11_tries 171 = .ok (.aload_n 0, 1) := by decide +kernel
theorem dX11_tries_172 : decode cX11_tries 172 = .ok (.iload_n 1, 1) := by decide +kernel
theorem dX11_tries_173 : decode cX11_tries 173 = .ok (.iconst 1, 1) := by decide +kernel
theorem dX11_tries_174 : decode cX11_tries 174 = .ok (.iadd, 1) := by decide +kernel
theorem dX11_tries_175 : decode cX11_tries 175 = .ok (.iload_n 2, 1) := by decide +kernel
theorem dX11_tries_176 : decode cX11_tries 176 = .ok (.invokevirtual 204, 3) := by decide +kernel
theorem dX11_tries_179 : decode cX11_tries 179 = .ok (.iinc 3 1, 3) := by decide +kernel
theorem dX11_tries_182 : decode cX11_tries 182 = .ok (.goto (-65), 3) := by decide +kernel
theorem dX11_tries_185 : decode cX11_tries 185 = .ok (.return_, 1) := by decide +kernel
theorem dX11_hasMiddle_0 : decode cX11_hasMiddle 0 = .ok (.aload_n 0, 1) := by decide +kernel
theorem dX11_hasMiddle_1 : decode cX11_hasMiddle 1 = .ok (.iconst 1, 1) := by decide +kernel
theorem dX11_hasMiddle_2 : decode cX11_hasMiddle 2 = .ok (.invokevirtual 141, 3) := by decide +kernel
theorem dX11_hasMiddle_5 : decode cX11_hasMiddle 5 = .ok (.ifCond .ne 5, 3) := by decide +kernel
theorem dX11_hasMiddle_8 : decode cX11_hasMiddle 8 = .ok (.iconst 0, 1) := by decide +kernel
theorem dX11_hasMiddle_9 : decode cX11_hasMiddle 9 = .ok (.ireturn, 1) := by decide +kernel
theorem dX11_hasMiddle_10 : decode cX11_hasMiddle 10 = .ok (.aload_n 0, 1) := by decide +kernel
theorem dX11_hasMiddle_11 : decode cX11_hasMiddle 11 = .ok (.getfield 75, 3) := by decide +kernel
theorem dX11_hasMiddle_14 : decode cX11_hasMiddle 14 = .ok (.ifCond .eq 5, 3) := by decide +kernel
theorem dX11_hasMiddle_17 : decode cX11_hasMiddle 17 = .ok (.iconst 1, 1) := by decide +kernel
theorem dX11_hasMiddle_18 : decode cX11_hasMiddle 18 = .ok (.ireturn, 1) := by decide +kernel
theorem dX11_hasMiddle_19 : decode cX11_hasMiddle 19 = .ok (.aload_n 0, 1) := by decide +kernel
theorem dX11_hasMiddle_20 : decode cX11_hasMiddle 20 = .ok (.iconst 0, 1) := by decide +kernel
theorem dX11_hasMiddle_21 : decode cX11_hasMiddle 21 = .ok (.putfield 195, 3) := by decide +kernel
theorem dX11_hasMiddle_24 : decode cX11_hasMiddle 24 = .ok (.iconst 0, 1) := by decide +kernel
theorem dX11_hasMiddle_25 : decode cX11_hasMiddle 25 = .ok (.istore_n 1, 1) := by decide +kernel
theorem dX11_hasMiddle_26 : decode cX11_hasMiddle 26 = .ok (.iload_n 1, 1) := by decide +kernel
theorem dX11_hasMiddle_27 : decode cX11_hasMiddle 27 = .ok (.aload_n 0, 1) := by decide +kernel
theorem dX11_hasMiddle_28 : decode cX11_hasMiddle 28 = .ok (.getfield 85, 3) := by decide +kernel
theorem dX11_hasMiddle_31 : decode cX11_hasMiddle 31 = .ok (.if_icmp .ge 42, 3) := by decide +kernel
theorem dX11_hasMiddle_34 : decode cX11_hasMiddle 34 = .ok (.iconst 0, 1) := by decide +kernel
theorem dX11_hasMiddle_35 : decode cX11_hasMiddle 35 = .ok (.istore_n 2, 1) := by decide +kernel
theorem dX11_hasMiddle_36 : decode cX11_hasMiddle 36 = .ok (.iload_n 2, 1) := by decide +kernel
theorem dX11_hasMiddle_37 : decode cX11_hasMiddle 37 = .ok (.aload_n 0, 1) := by decide +kernel
theorem dX11_hasMiddle_38 : decode cX11_hasMiddle 38 = .ok (.getfield 110, 3) := by decide +kernel
theorem dX11_hasMiddle_41 : decode cX11_hasMiddle 41 = .ok (.if_icmp .gt 26, 3) := by decide +kernel
theorem dX11_hasMiddle_44 : decode cX11_hasMiddle 44 = .ok (.aload_n 0, 1) := by decide +kernel
theorem dX11_hasMiddle_45 : decode cX11_hasMiddle 45 = .ok (.getfield 62, 3) := by decide +kernel
theorem dX11_hasMiddle_48 : decode cX11_hasMiddle 48 = .ok (.bipush 81, 2) := by decide +kernel
theorem dX11_hasMiddle_50 : decode cX11_hasMiddle 50 = .ok (.iload_n 1, 1) := by decide +kernel
theorem dX11_hasMiddle_51 : decode cX11_hasMiddle 51 = .ok (.imul, 1) := by decide +kernel
theorem dX11_hasMiddle_52 : decode cX11_hasMiddle 52 = .ok (.iload_n 2, 1) := by decide +kernel
theorem dX11_hasMiddle_53 : decode cX11_hasMiddle 53 = .ok (.iadd, 1) := by decide +kernel
theorem dX11_hasMiddle_54 : decode cX11_hasMiddle 54 = .ok (.aload_n 0, 1) := by decide +kernel
theorem dX11_hasMiddle_55 : decode cX11_hasMiddle 55 = .ok (.getfield 20, 3) := by decide +kernel
theorem dX11_hasMiddle_58 : decode cX11_hasMiddle 58 = .ok (.iload_n 2, 1) := by decide +kernel
theorem dX11_hasMiddle_59 : decode cX11_hasMiddle 59 = .ok (.imul, 1) := by decide +kernel
theorem dX11_hasMiddle_60 : decode cX11_hasMiddle 60 = .ok (.iastore, 1) := by decide +kernel
theorem dX11_hasMiddle_61 : decode cX11_hasMiddle 61 = .ok (.iinc 2 1, 3) := by decide +kernel
theorem dX11_hasMiddle_64 : decode cX11_hasMiddle 64 = .ok (.goto (-28), 3) := by decide +kernel
theorem dX11_hasMiddle_67 : decode cX11_hasMiddle 67 = .ok (.iinc 1 1, 3) := by decide +kernel
theorem dX11_hasMiddle_70 : decode cX11_hasMiddle 70 = .ok (.goto (-44), 3) := by decide +kernel
theorem dX11_hasMiddle_73 : decode cX11_hasMiddle 73 = .ok (.iconst 1, 1) := by decide +kernel
theorem dX11_hasMiddle_74 : decode cX11_hasMiddle 74 = .ok (.istore_n 1, 1) := by decide +kernel
theorem dX11_hasMiddle_75 : decode cX11_hasMiddle 75 = .ok (.iload_n 1, 1) := by decide +kernel
theorem dX11_hasMiddle_76 : decode cX11_hasMiddle 76 = .ok (.bipush 8, 2) := by decide +kernel
theorem dX11_hasMiddle_78 : decode cX11_hasMiddle 78 = .ok (.if_icmp .gt 15, 3) := by decide +kernel
theorem dX11_hasMiddle_81 : decode cX11_hasMiddle 81 = .ok (.aload_n 0, 1) := by decide +kernel
theorem dX11_hasMiddle_82 : decode cX11_hasMiddle 82 = .ok (.iconst 0, 1) := by decide +kernel
theorem dX11_hasMiddle_83 : decode cX11_hasMiddle 83 = .ok (.iload_n 1, 1) := by decide +kernel
theorem dX11_hasMiddle_84 : decode cX11_hasMiddle 84 = .ok (.invokevirtual 204, 3) := by decide +kernel
theorem dX11_hasMiddle_87 : decode cX11_hasMiddle 87 = .ok (.iinc 1 1, 3) := by decide +kernel
theorem dX11_hasMiddle_90 : decode cX11_hasMiddle 90 = .ok (.goto (-15), 3) := by decide +kernel
theorem dX11_hasMiddle_93 : decode cX11_hasMiddle 93 = .ok (.aload_n 0, 1) := by decide +kernel
theorem dX11_hasMiddle_94 : decode cX11_hasMiddle 94 = .ok (.iconst 1, 1) := by decide +kernel
theorem dX11_hasMiddle_95 : decode cX11_hasMiddle 95 = .ok (.putfield 75, 3) := by decide +kernel
theorem dX11_hasMiddle_98 : decode cX11_hasMiddle 98 = .ok (.iconst 1, 1) := by decide +kernel
theorem dX11_hasMiddle_99 : decode cX11_hasMiddle 99 = .ok (.ireturn, 1) := by decide +kernel
theorem dX11_middle_0 : decode cX11_middle 0 = .ok (.aload_n 0, 1) := by decide +kernel
theorem dX11_middle_1 : decode cX11_middle 1 = .ok (.iconst 0, 1) := by decide +kernel
theorem dX11_middle_2 : decode cX11_middle 2 = .ok (.putfield 1, 3) := by decide +kernel
theorem dX11_middle_5 : decode cX11_middle 5 = .ok (.aload_n 0, 1) := by decide +kernel
theorem dX11_middle_6 : decode cX11_middle 6 = .ok (.invokevirtual 207, 3) := by decide +kernel
theorem dX11_middle_9 : decode cX11_middle 9 = .ok (.ifCond .eq 10, 3) := by decide +kernel
theorem dX11_middle_12 : decode cX11_middle 12 = .ok (.aload_n 0, 1) := by decide +kernel
theorem dX11_middle_13 : decode cX11_middle 13 = .ok (.getfield 198, 3) := by decide +kernel
theorem dX11_middle_16 : decode cX11_middle 16 = .ok (.goto 4, 3) := by decide +kernel
theorem dX11_middle_19 : decode cX11_middle 19 = .ok (.iconst (-1), 1) := by decide +kernel
theorem dX11_middle_20 : decode cX11_middle 20 = .ok (.ireturn, 1) := by decide +kernel
theorem dX11_middleLength_0 : decode cX11_middleLength 0 = .ok (.aload_n 0, 1) := by decide +kernel
theorem dX11_middleLength_1 : decode cX11_middleLength 1 = .ok (.iconst 0, 1) := by decide +kernel
theorem dX11_middleLength_2 : decode cX11_middleLength 2 = .ok (.putfield 1, 3) := by decide +kernel
theorem dX11_middleLength_5 : decode cX11_middleLength 5 = .ok (.aload_n 0, 1) := by decide +kernel
theorem dX11_middleLength_6 : decode cX11_middleLength 6 = .ok (.invokevirtual 207, 3) := by decide +kernel
theorem dX11_middleLength_9 : decode cX11_middleLength 9 = .ok (.ifCond .eq 10, 3) := by decide +kernel
theorem dX11_middleLength_12 : decode cX11_middleLength 12 = .ok (.aload_n 0, 1) := by decide +kernel
theorem dX11_middleLength_13 : decode cX11_middleLength 13 = .ok (.getfield 195, 3) := by decide +kernel
theorem dX11_middleLength_16 : decode cX11_middleLength 16 = .ok (.goto 4, 3) := by decide +kernel
theorem dX11_middleLength_19 : decode cX11_middleLength 19 = .ok (.iconst (-1), 1) := by decide +kernel
theorem dX11_middleLength_20 : decode cX11_middleLength 20 = .ok (.ireturn, 1) := by decide +kernel
theorem dX11_middleAt_0 : decode cX11_middleAt 0 = .ok (.aload_n 0, 1) := by decide +kernel
theorem dX11_middleAt_1 : decode cX11_middleAt 1 = .ok (.iconst 0, 1) := by decide +kernel
theorem dX11_middleAt_2 : decode cX11_middleAt 2 = .ok (.putfield 1, 3) := by decide +kernel
theorem dX11_middleAt_5 : decode cX11_middleAt 5 = .ok (.aload_n 0, 1) := by decide +kernel
theorem dX11_middleAt_6 : decode cX11_middleAt 6 = .ok (.invokevirtual 207, 3) := by decide +kernel
theorem dX11_middleAt_9 : decode cX11_middleAt 9 = .ok (.ifCond .eq 24, 3) := by decide +kernel
theorem dX11_middleAt_12 : decode cX11_middleAt 12 = .ok (.iload_n 1, 1) := by decide +kernel
theorem dX11_middleAt_13 : decode cX11_middleAt 13 = .ok (.ifCond .lt 20, 3) := by decide +kernel
theorem dX11_middleAt_16 : decode cX11_middleAt 16 = .ok (.iload_n 1, 1) := by decide +kernel
theorem dX11_middleAt_17 : decode cX11_middleAt 17 = .ok (.aload_n 0, 1) := by decide +kernel
theorem dX11_middleAt_18 : decode cX11_middleAt 18 = .ok (.getfield 195, 3) := by decide +kernel
theorem dX11_middleAt_21 : decode cX11_middleAt 21 = .ok (.if_icmp .ge 12, 3) := by decide +kernel
theorem dX11_middleAt_24 : decode cX11_middleAt 24 = .ok (.aload_n 0, 1) := by decide +kernel
theorem dX11_middleAt_25 : decode cX11_middleAt 25 = .ok (.getfield 65, 3) := by decide +kernel
theorem dX11_middleAt_28 : decode cX11_middleAt 28 = .ok (.iload_n 1, 1) := by decide +kernel
theorem dX11_middleAt_29 : decode cX11_middleAt 29 = .ok (.baload, 1) := by decide +kernel
theorem dX11_middleAt_30 : decode cX11_middleAt 30 = .ok (.goto 4, 3) := by decide +kernel
theorem dX11_middleAt_33 : decode cX11_middleAt 33 = .ok (.iconst (-1), 1) := by decide +kernel
theorem dX11_middleAt_34 : decode cX11_middleAt 34 = .ok (.ireturn, 1) := by decide +kernel
theorem dX11_nearestPiece_0 : decode cX11_nearestPiece 0 = .ok (.iconst 0, 1) := by decide +kernel
theorem dX11_nearestPiece_1 : decode cX11_nearestPiece 1 = .ok (.istore_n 3, 1) := by decide +kernel
theorem dX11_nearestPiece_2 : decode cX11_nearestPiece 2 = .ok (.iconst 1, 1) := by decide +kernel
theorem dX11_nearestPiece_3 : decode cX11_nearestPiece 3 = .ok (.istore 4, 2) := by decide +kernel
theorem dX11_nearestPiece_5 : decode cX11_nearestPiece 5 = .ok (.iload 4, 2) := by decide +kernel
theorem dX11_nearestPiece_7 : decode cX11_nearestPiece 7 = .ok (.iload_n 2, 1) := by decide +kernel
theorem dX11_nearestPiece_8 : decode cX11_nearestPiece 8 = .ok (.iadd, 1) := by decide +kernel
theorem dX11_nearestPiece_9 : decode cX11_nearestPiece 9 = .ok (.aload_n 0, 1) := by decide +kernel
theorem dX11_nearestPiece_10 : decode cX11_nearestPiece 10 = .ok (.getfield 33, 3) := by decide +kernel
theorem dX11_nearestPiece_13 : decode cX11_nearestPiece 13 = .ok (.iload_n 1, 1) := by decide +kernel
theorem dX11_nearestPiece_14 : decode cX11_nearestPiece 14 = .ok (.iaload, 1) := by decide +kernel
theorem dX11_nearestPiece_15 : decode cX11_nearestPiece 15 = .ok (.if_icmp .gt 56, 3) := by decide +kernel
theorem dX11_nearestPiece_18 : decode cX11_nearestPiece 18 = .ok (.aload_n 0, 1) := by decide +kernel
theorem dX11_nearestPiece_19 : decode cX11_nearestPiece 19 = .ok (.aload_n 0, 1) := by decide +kernel
theorem dX11_nearestPiece_20 : decode cX11_nearestPiece 20 = .ok (.getfield 49, 3) := by decide +kernel
theorem dX11_nearestPiece_23 : decode cX11_nearestPiece 23 = .ok (.iconst 0, 1) := by decide +kernel
