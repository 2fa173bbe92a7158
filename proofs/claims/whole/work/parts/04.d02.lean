theorem dX4_holdNearest_74 : decode cX4_holdNearest 74 = .ok (.ishl, 1) := by decide +kernel
theorem dX4_holdNearest_75 : decode cX4_holdNearest 75 = .ok (.iload_n 3, 1) := by decide +kernel
theorem dX4_holdNearest_76 : decode cX4_holdNearest 76 = .ok (.ior, 1) := by decide +kernel
theorem dX4_holdNearest_77 : decode cX4_holdNearest 77 = .ok (.invokevirtual 102, 3) := by decide +kernel
theorem dX4_holdNearest_80 : decode cX4_holdNearest 80 = .ok (.iinc 5 1, 3) := by decide +kernel
theorem dX4_holdNearest_83 : decode cX4_holdNearest 83 = .ok (.goto (-60), 3) := by decide +kernel
theorem dX4_holdNearest_86 : decode cX4_holdNearest 86 = .ok (.return_, 1) := by decide +kernel
theorem dX4_hold_0 : decode cX4_hold 0 = .ok (.iload_n 2, 1) := by decide +kernel
theorem dX4_hold_1 : decode cX4_hold 1 = .ok (.aload_n 0, 1) := by decide +kernel
theorem dX4_hold_2 : decode cX4_hold 2 = .ok (.getfield 19, 3) := by decide +kernel
theorem dX4_hold_5 : decode cX4_hold 5 = .ok (.iload_n 1, 1) := by decide +kernel
theorem dX4_hold_6 : decode cX4_hold 6 = .ok (.iaload, 1) := by decide +kernel
theorem dX4_hold_7 : decode cX4_hold 7 = .ok (.if_icmp .ge 10, 3) := by decide +kernel
theorem dX4_hold_10 : decode cX4_hold 10 = .ok (.aload_n 0, 1) := by decide +kernel
theorem dX4_hold_11 : decode cX4_hold 11 = .ok (.getfield 19, 3) := by decide +kernel
theorem dX4_hold_14 : decode cX4_hold 14 = .ok (.iload_n 1, 1) := by decide +kernel
theorem dX4_hold_15 : decode cX4_hold 15 = .ok (.iload_n 2, 1) := by decide +kernel
theorem dX4_hold_16 : decode cX4_hold 16 = .ok (.iastore, 1) := by decide +kernel
theorem dX4_hold_17 : decode cX4_hold 17 = .ok (.return_, 1) := by decide +kernel
theorem dX4_holdSmallerSets_0 : decode cX4_holdSmallerSets 0 = .ok (.iconst 0, 1) := by decide +kernel
theorem dX4_holdSmallerSets_1 : decode cX4_holdSmallerSets 1 = .ok (.istore_n 1, 1) := by decide +kernel
theorem dX4_holdSmallerSets_2 : decode cX4_holdSmallerSets 2 = .ok (.iload_n 1, 1) := by decide +kernel
theorem dX4_holdSmallerSets_3 : decode cX4_holdSmallerSets 3 = .ok (.bipush 8, 2) := by decide +kernel
theorem dX4_holdSmallerSets_5 : decode cX4_holdSmallerSets 5 = .ok (.if_icmp .ge 47, 3) := by decide +kernel
theorem dX4_holdSmallerSets_8 : decode cX4_holdSmallerSets 8 = .ok (.iconst 1, 1) := by decide +kernel
theorem dX4_holdSmallerSets_9 : decode cX4_holdSmallerSets 9 = .ok (.iload_n 1, 1) := by decide +kernel
theorem dX4_holdSmallerSets_10 : decode cX4_holdSmallerSets 10 = .ok (.ishl, 1) := by decide +kernel
theorem dX4_holdSmallerSets_11 : decode cX4_holdSmallerSets 11 = .ok (.istore_n 2, 1) := by decide +kernel
theorem dX4_holdSmallerSets_12 : decode cX4_holdSmallerSets 12 = .ok (.iconst 0, 1) := by decide +kernel
theorem dX4_holdSmallerSets_13 : decode cX4_holdSmallerSets 13 = .ok (.istore_n 3, 1) := by decide +kernel
theorem dX4_holdSmallerSets_14 : decode cX4_holdSmallerSets 14 = .ok (.iload_n 3, 1) := by decide +kernel
theorem dX4_holdSmallerSets_15 : decode cX4_holdSmallerSets 15 = .ok (.sipush 256, 3) := by decide +kernel
theorem dX4_holdSmallerSets_18 : decode cX4_holdSmallerSets 18 = .ok (.if_icmp .ge 28, 3) := by decide +kernel
theorem dX4_holdSmallerSets_21 : decode cX4_holdSmallerSets 21 = .ok (.iload_n 3, 1) := by decide +kernel
theorem dX4_holdSmallerSets_22 : decode cX4_holdSmallerSets 22 = .ok (.iload_n 2, 1) := by decide +kernel
theorem dX4_holdSmallerSets_23 : decode cX4_holdSmallerSets 23 = .ok (.iand, 1) := by decide +kernel
theorem dX4_holdSmallerSets_24 : decode cX4_holdSmallerSets 24 = .ok (.ifCond .ne 16, 3) := by decide +kernel
theorem dX4_holdSmallerSets_27 : decode cX4_holdSmallerSets 27 = .ok (.aload_n 0, 1) := by decide +kernel
theorem dX4_holdSmallerSets_28 : decode cX4_holdSmallerSets 28 = .ok (.iload_n 3, 1) := by decide +kernel
theorem dX4_holdSmallerSets_29 : decode cX4_holdSmallerSets 29 = .ok (.aload_n 0, 1) := by decide +kernel
theorem dX4_holdSmallerSets_30 : decode cX4_holdSmallerSets 30 = .ok (.getfield 19, 3) := by decide +kernel
theorem dX4_holdSmallerSets_33 : decode cX4_holdSmallerSets 33 = .ok (.iload_n 3, 1) := by decide +kernel
theorem dX4_holdSmallerSets_34 : decode cX4_holdSmallerSets 34 = .ok (.iload_n 2, 1) := by decide +kernel
theorem dX4_holdSmallerSets_35 : decode cX4_holdSmallerSets 35 = .ok (.ior, 1) := by decide +kernel
theorem dX4_holdSmallerSets_36 : decode cX4_holdSmallerSets 36 = .ok (.iaload, 1) := by decide +kernel
theorem dX4_holdSmallerSets_37 : decode cX4_holdSmallerSets 37 = .ok (.invokevirtual 102, 3) := by decide +kernel
theorem dX4_holdSmallerSets_40 : decode cX4_holdSmallerSets 40 = .ok (.iinc 3 1, 3) := by decide +kernel
theorem dX4_holdSmallerSets_43 : decode cX4_holdSmallerSets 43 = .ok (.goto (-29), 3) := by decide +kernel
theorem dX4_holdSmallerSets_46 : decode cX4_holdSmallerSets 46 = .ok (.iinc 1 1, 3) := by decide +kernel
theorem dX4_holdSmallerSets_49 : decode cX4_holdSmallerSets 49 = .ok (.goto (-47), 3) := by decide +kernel
theorem dX4_holdSmallerSets_52 : decode cX4_holdSmallerSets 52 = .ok (.return_, 1) := by decide +kernel
theorem dX4_coverAll_0 : decode cX4_coverAll 0 = .ok (.iconst 0, 1) := by decide +kernel
theorem dX4_coverAll_1 : decode cX4_coverAll 1 = .ok (.istore_n 1, 1) := by decide +kernel
theorem dX4_coverAll_2 : decode cX4_coverAll 2 = .ok (.iload_n 1, 1) := by decide +kernel
theorem dX4_coverAll_3 : decode cX4_coverAll 3 = .ok (.sipush 256, 3) := by decide +kernel
theorem dX4_coverAll_6 : decode cX4_coverAll 6 = .ok (.if_icmp .ge 25, 3) := by decide +kernel
theorem dX4_coverAll_9 : decode cX4_coverAll 9 = .ok (.aload_n 0, 1) := by decide +kernel
theorem dX4_coverAll_10 : decode cX4_coverAll 10 = .ok (.getfield 22, 3) := by decide +kernel
theorem dX4_coverAll_13 : decode cX4_coverAll 13 = .ok (.iload_n 1, 1) := by decide +kernel
theorem dX4_coverAll_14 : decode cX4_coverAll 14 = .ok (.aload_n 0, 1) := by decide +kernel
theorem dX4_coverAll_15 : decode cX4_coverAll 15 = .ok (.aload_n 0, 1) := by decide +kernel
theorem dX4_coverAll_16 : decode cX4_coverAll 16 = .ok (.getfield 19, 3) := by decide +kernel
theorem dX4_coverAll_19 : decode cX4_coverAll 19 = .ok (.iload_n 1, 1) := by decide +kernel
theorem dX4_coverAll_20 : decode cX4_coverAll 20 = .ok (.iaload, 1) := by decide +kernel
theorem dX4_coverAll_21 : decode cX4_coverAll 21 = .ok (.invokevirtual 109, 3) := by decide +kernel
theorem dX4_coverAll_24 : decode cX4_coverAll 24 = .ok (.iastore, 1) := by decide +kernel
theorem dX4_coverAll_25 : decode cX4_coverAll 25 = .ok (.iinc 1 1, 3) := by decide +kernel
theorem dX4_coverAll_28 : decode cX4_coverAll 28 = .ok (.goto (-26), 3) := by decide +kernel
theorem dX4_coverAll_31 : decode cX4_coverAll 31 = .ok (.aload_n 0, 1) := by decide +kernel
theorem dX4_coverAll_32 : decode cX4_coverAll 32 = .ok (.getfield 15, 3) := by decide +kernel
theorem dX4_coverAll_35 : decode cX4_coverAll 35 = .ok (.iconst 1, 1) := by decide +kernel
theorem dX4_coverAll_36 : decode cX4_coverAll 36 = .ok (.aload_n 0, 1) := by decide +kernel
theorem dX4_coverAll_37 : decode cX4_coverAll 37 = .ok (.getfield 22, 3) := by decide +kernel
theorem dX4_coverAll_40 : decode cX4_coverAll 40 = .ok (.aload_n 0, 1) := by decide +kernel
theorem dX4_coverAll_41 : decode cX4_coverAll 41 = .ok (.getfield 28, 3) := by decide +kernel
theorem dX4_coverAll_44 : decode cX4_coverAll 44 = .ok (.iaload, 1) := by decide +kernel
theorem dX4_coverAll_45 : decode cX4_coverAll 45 = .ok (.iastore, 1) := by decide +kernel
theorem dX4_coverAll_46 : decode cX4_coverAll 46 = .ok (.iconst 2, 1) := by decide +kernel
theorem dX4_coverAll_47 : decode cX4_coverAll 47 = .ok (.istore_n 1, 1) := by decide +kernel
theorem dX4_coverAll_48 : decode cX4_coverAll 48 = .ok (.iload_n 1, 1) := by decide +kernel
theorem dX4_coverAll_49 : decode cX4_coverAll 49 = .ok (.bipush 8, 2) := by decide +kernel
theorem dX4_coverAll_51 : decode cX4_coverAll 51 = .ok (.if_icmp .gt 53, 3) := by decide +kernel
theorem dX4_coverAll_54 : decode cX4_coverAll 54 = .ok (.sipush 255, 3) := by decide +kernel
theorem dX4_coverAll_57 : decode cX4_coverAll 57 = .ok (.istore_n 2, 1) := by decide +kernel
theorem dX4_coverAll_58 : decode cX4_coverAll 58 = .ok (.iload_n 2, 1) := by decide +kernel
theorem dX4_coverAll_59 : decode cX4_coverAll 59 = .ok (.ifCond .le 24, 3) := by decide +kernel
theorem dX4_coverAll_62 : decode cX4_coverAll 62 = .ok (.iload_n 2, 1) := by decide +kernel
theorem dX4_coverAll_63 : decode cX4_coverAll 63 = .ok (.aload_n 0, 1) := by decide +kernel
theorem dX4_coverAll_64 : decode cX4_coverAll 64 = .ok (.getfield 28, 3) := by decide +kernel
theorem dX4_coverAll_67 : decode cX4_coverAll 67 = .ok (.iand, 1) := by decide +kernel
theorem dX4_coverAll_68 : decode cX4_coverAll 68 = .ok (.iload_n 2, 1) := by decide +kernel
theorem dX4_coverAll_69 : decode cX4_coverAll 69 = .ok (.if_icmp .ne 8, 3) := by decide +kernel
theorem dX4_coverAll_72 : decode cX4_coverAll 72 = .ok (.aload_n 0, 1) := by decide +kernel
theorem dX4_coverAll_73 : decode cX4_coverAll 73 = .ok (.iload_n 2, 1) := by decide +kernel
theorem dX4_coverAll_74 : decode cX4_coverAll 74 = .ok (.invokevirtual 112, 3) := by decide +kernel
theorem dX4_coverAll_77 : decode cX4_coverAll 77 = .ok (.iinc 2 (-1), 3) := by decide +kernel
theorem dX4_coverAll_80 : decode cX4_coverAll 80 = .ok (.goto (-22), 3) := by decide +kernel
theorem dX4_coverAll_83 : decode cX4_coverAll 83 = .ok (.aload_n 0, 1) := by decide +kernel
theorem dX4_coverAll_84 : decode cX4_coverAll 84 = .ok (.getfield 15, 3) := by decide +kernel
theorem dX4_coverAll_87 : decode cX4_coverAll 87 = .ok (.iload_n 1, 1) := by decide +kernel
theorem dX4_coverAll_88 : decode cX4_coverAll 88 = .ok (.aload_n 0, 1) := by decide +kernel
theorem dX4_coverAll_89 : decode cX4_coverAll 89 = .ok (.getfield 22, 3) := by decide +kernel
theorem dX4_coverAll_92 : decode cX4_coverAll 92 = .ok (.aload_n 0, 1) := by decide +kernel
theorem dX4_coverAll_93 : decode cX4_coverAll 93 = .ok (.getfield 28, 3) := by decide +kernel
theorem dX4_coverAll_96 : decode cX4_coverAll 96 = .ok (.iaload, 1) := by decide +kernel
theorem dX4_coverAll_97 : decode cX4_coverAll 97 = .ok (.iastore, 1) := by decide +kernel
theorem dX4_coverAll_98 : decode cX4_coverAll 98 = .ok (.iinc 1 1, 3) := by decide +kernel
theorem dX4_coverAll_101 : decode cX4_coverAll 101 = .ok (.goto (-53), 3) := by decide +kernel
theorem dX4_coverAll_104 : decode cX4_coverAll 104 = .ok (.return_, 1) := by decide +kernel
theorem dX4_partOnce_0 : decode cX4_partOnce 0 = .ok (.iload_n 1, 1) := by decide +kernel
theorem dX4_partOnce_1 : decode cX4_partOnce 1 = .ok (.iload_n 1, 1) := by decide +kernel
theorem dX4_partOnce_2 : decode cX4_partOnce 2 = .ok (.ineg, 1) := by decide +kernel
theorem dX4_partOnce_3 : decode cX4_partOnce 3 = .ok (.iand, 1) := by decide +kernel
theorem dX4_partOnce_4 : decode cX4_partOnce 4 = .ok (.istore_n 2, 1) := by decide +kernel
theorem dX4_partOnce_5 : decode cX4_partOnce 5 = .ok (.iload_n 1, 1) := by decide +kernel
theorem dX4_partOnce_6 : decode cX4_partOnce 6 = .ok (.istore_n 3, 1) := by decide +kernel
theorem dX4_partOnce_7 : decode cX4_partOnce 7 = .ok (.iload_n 3, 1) := by decide +kernel
theorem dX4_partOnce_8 : decode cX4_partOnce 8 = .ok (.ifCond .le 60, 3) := by decide +kernel
theorem dX4_partOnce_11 : decode cX4_partOnce 11 = .ok (.iload_n 3, 1) := by decide +kernel
theorem dX4_partOnce_12 : decode cX4_partOnce 12 = .ok (.iload_n 2, 1) := by decide +kernel
theorem dX4_partOnce_13 : decode cX4_partOnce 13 = .ok (.iand, 1) := by decide +kernel
theorem dX4_partOnce_14 : decode cX4_partOnce 14 = .ok (.ifCond .eq 45, 3) := by decide +kernel
theorem dX4_partOnce_17 : decode cX4_partOnce 17 = .ok (.aload_n 0, 1) := by decide +kernel
theorem dX4_partOnce_18 : decode cX4_partOnce 18 = .ok (.aload_n 0, 1) := by decide +kernel
theorem dX4_partOnce_19 : decode cX4_partOnce 19 = .ok (.getfield 19, 3) := by decide +kernel
theorem dX4_partOnce_22 : decode cX4_partOnce 22 = .ok (.iload_n 3, 1) := by decide +kernel
theorem dX4_partOnce_23 : decode cX4_partOnce 23 = .ok (.iaload, 1) := by decide +kernel
theorem dX4_partOnce_24 : decode cX4_partOnce 24 = .ok (.invokevirtual 109, 3) := by decide +kernel
theorem dX4_partOnce_27 : decode cX4_partOnce 27 = .ok (.aload_n 0, 1) := by decide +kernel
theorem dX4_partOnce_28 : decode cX4_partOnce 28 = .ok (.getfield 22, 3) := by decide +kernel
theorem dX4_partOnce_31 : decode cX4_partOnce 31 = .ok (.iload_n 1, 1) := by decide +kernel
theorem dX4_partOnce_32 : decode cX4_partOnce 32 = .ok (.iload_n 3, 1) := by decide +kernel
theorem dX4_partOnce_33 : decode cX4_partOnce 33 = .ok (.ixor, 1) := by decide +kernel
theorem dX4_partOnce_34 : decode cX4_partOnce 34 = .ok (.iaload, 1) := by decide +kernel
theorem dX4_partOnce_35 : decode cX4_partOnce 35 = .ok (.invokestatic 115, 3) := by decide +kernel
theorem dX4_partOnce_38 : decode cX4_partOnce 38 = .ok (.istore 4, 2) := by decide +kernel
theorem dX4_partOnce_40 : decode cX4_partOnce 40 = .ok (.iload 4, 2) := by decide +kernel
theorem dX4_partOnce_42 : decode cX4_partOnce 42 = .ok (.aload_n 0, 1) := by decide +kernel
theorem dX4_partOnce_43 : decode cX4_partOnce 43 = .ok (.getfield 22, 3) := by decide +kernel
theorem dX4_partOnce_46 : decode cX4_partOnce 46 = .ok (.iload_n 1, 1) := by decide +kernel
theorem dX4_partOnce_47 : decode cX4_partOnce 47 = .ok (.iaload, 1) := by decide +kernel
theorem dX4_partOnce_48 : decode cX4_partOnce 48 = .ok (.if_icmp .ge 11, 3) := by decide +kernel
theorem dX4_partOnce_51 : decode cX4_partOnce 51 = .ok (.aload_n 0, 1) := by decide +kernel
theorem dX4_partOnce_52 : decode cX4_partOnce 52 = .ok (.getfield 22, 3) := by decide +kernel
theorem dX4_partOnce_55 : decode cX4_partOnce 55 = .ok (.iload_n 1, 1) := by decide +kernel
theorem dX4_partOnce_56 : decode cX4_partOnce 56 = .ok (.iload 4, 2) := by decide +kernel
theorem dX4_partOnce_58 : decode cX4_partOnce 58 = .ok (.iastore, 1) := by decide +kernel
theorem dX4_partOnce_59 : decode cX4_partOnce 59 = .ok (.iload_n 3, 1) := by decide +kernel
theorem dX4_partOnce_60 : decode cX4_partOnce 60 = .ok (.iconst 1, 1) := by decide +kernel
theorem dX4_partOnce_61 : decode cX4_partOnce 61 = .ok (.isub, 1) := by decide +kernel
theorem dX4_partOnce_62 : decode cX4_partOnce 62 = .ok (.iload_n 1, 1) := by decide +kernel
theorem dX4_partOnce_63 : decode cX4_partOnce 63 = .ok (.iand, 1) := by decide +kernel
theorem dX4_partOnce_64 : decode cX4_partOnce 64 = .ok (.istore_n 3, 1) := by decide +kernel
theorem dX4_partOnce_65 : decode cX4_partOnce 65 = .ok (.goto (-58), 3) := by decide +kernel
theorem dX4_partOnce_68 : decode cX4_partOnce 68 = .ok (.return_, 1) := by decide +kernel
theorem dX4_leastWithout_0 : decode cX4_leastWithout 0 = .ok (.iconst 0, 1) := by decide +kernel
theorem dX4_leastWithout_1 : decode cX4_leastWithout 1 = .ok (.aload_n 0, 1) := by decide +kernel
theorem dX4_leastWithout_2 : decode cX4_leastWithout 2 = .ok (.getfield 28, 3) := by decide +kernel
theorem dX4_leastWithout_5 : decode cX4_leastWithout 5 = .ok (.invokestatic 121, 3) := by decide +kernel
theorem dX4_leastWithout_8 : decode cX4_leastWithout 8 = .ok (.iload_n 1, 1) := by decide +kernel
theorem dX4_leastWithout_9 : decode cX4_leastWithout 9 = .ok (.isub, 1) := by decide +kernel
theorem dX4_leastWithout_10 : decode cX4_leastWithout 10 = .ok (.invokestatic 115, 3) := by decide +kernel
theorem dX4_leastWithout_13 : decode cX4_leastWithout 13 = .ok (.istore_n 2, 1) := by decide +kernel
theorem dX4_leastWithout_14 : decode cX4_leastWithout 14 = .ok (.ldc 48, 2) := by decide +kernel
theorem dX4_leastWithout_16 : decode cX4_leastWithout 16 = .ok (.istore_n 3, 1) := by decide +kernel
theorem dX4_leastWithout_17 : decode cX4_leastWithout 17 = .ok (.iconst 0, 1) := by decide +kernel
theorem dX4_leastWithout_18 : decode cX4_leastWithout 18 = .ok (.istore 4, 2) := by decide +kernel
theorem dX4_leastWithout_20 : decode cX4_leastWithout 20 = .ok (.iload 4, 2) := by decide +kernel
theorem dX4_leastWithout_22 : decode cX4_leastWithout 22 = .ok (.sipush 256, 3) := by decide +kernel
theorem dX4_leastWithout_25 : decode cX4_leastWithout 25 = .ok (.if_icmp .ge 49, 3) := by decide +kernel
theorem dX4_leastWithout_28 : decode cX4_leastWithout 28 = .ok (.iload 4, 2) := by decide +kernel
theorem dX4_leastWithout_30 : decode cX4_leastWithout 30 = .ok (.aload_n 0, 1) := by decide +kernel
theorem dX4_leastWithout_31 : decode cX4_leastWithout 31 = .ok (.getfield 28, 3) := by decide +kernel
theorem dX4_leastWithout_34 : decode cX4_leastWithout 34 = .ok (.iand, 1) := by decide +kernel
theorem dX4_leastWithout_35 : decode cX4_leastWithout 35 = .ok (.iload 4, 2) := by decide +kernel
theorem dX4_leastWithout_37 : decode cX4_leastWithout 37 = .ok (.if_icmp .ne 31, 3) := by decide +kernel
theorem dX4_leastWithout_40 : decode cX4_leastWithout 40 = .ok (.iload 4, 2) := by decide +kernel
theorem dX4_leastWithout_42 : decode cX4_leastWithout 42 = .ok (.invokestatic 121, 3) := by decide +kernel
theorem dX4_leastWithout_45 : decode cX4_leastWithout 45 = .ok (.iload_n 2, 1) := by decide +kernel
theorem dX4_leastWithout_46 : decode cX4_leastWithout 46 = .ok (.if_icmp .ne 22, 3) := by decide +kernel
theorem dX4_leastWithout_49 : decode cX4_leastWithout 49 = .ok (.aload_n 0, 1) := by decide +kernel
theorem dX4_leastWithout_50 : decode cX4_leastWithout 50 = .ok (.getfield 19, 3) := by decide +kernel
theorem dX4_leastWithout_53 : decode cX4_leastWithout 53 = .ok (.iload 4, 2) := by decide +kernel
theorem dX4_leastWithout_55 : decode cX4_leastWithout 55 = .ok (.iaload, 1) := by decide +kernel
theorem dX4_leastWithout_56 : decode cX4_leastWithout 56 = .ok (.iload_n 3, 1) := by decide +kernel
theorem dX4_leastWithout_57 : decode cX4_leastWithout 57 = .ok (.if_icmp .ge 11, 3) := by decide +kernel
theorem dX4_leastWithout_60 : decode cX4_leastWithout 60 = .ok (.aload_n 0, 1) := by decide +kernel
theorem dX4_leastWithout_61 : decode cX4_leastWithout 61 = .ok (.getfield 19, 3) := by decide +kernel
theorem dX4_leastWithout_64 : decode cX4_leastWithout 64 = .ok (.iload 4, 2) := by decide +kernel
theorem dX4_leastWithout_66 : decode cX4_leastWithout 66 = .ok (.iaload, 1) := by decide +kernel
theorem dX4_leastWithout_67 : decode cX4_leastWithout 67 = .ok (.istore_n 3, 1) := by decide +kernel
theorem dX4_leastWithout_68 : decode cX4_leastWithout 68 = .ok (.iinc 4 1, 3) := by decide +kernel
theorem dX4_leastWithout_71 : decode cX4_leastWithout 71 = .ok (.goto (-51), 3) := by decide +kernel
theorem dX4_leastWithout_74 : decode cX4_leastWithout 74 = .ok (.iload_n 3, 1) := by decide +kernel
theorem dX4_leastWithout_75 : decode cX4_leastWithout 75 = .ok (.ireturn, 1) := by decide +kernel
theorem dX4_leastNotHeld_0 : decode cX4_leastNotHeld 0 = .ok (.iconst 0, 1) := by decide +kernel
theorem dX4_leastNotHeld_1 : decode cX4_leastNotHeld 1 = .ok (.istore_n 2, 1) := by decide +kernel
theorem dX4_leastNotHeld_2 : decode cX4_leastNotHeld 2 = .ok (.bipush 9, 2) := by decide +kernel
theorem dX4_leastNotHeld_4 : decode cX4_leastNotHeld 4 = .ok (.istore_n 3, 1) := by decide +kernel
theorem dX4_leastNotHeld_5 : decode cX4_leastNotHeld 5 = .ok (.iconst 1, 1) := by decide +kernel
theorem dX4_leastNotHeld_6 : decode cX4_leastNotHeld 6 = .ok (.istore 4, 2) := by decide +kernel
theorem dX4_leastNotHeld_8 : decode cX4_leastNotHeld 8 = .ok (.iload 4, 2) := by decide +kernel
theorem dX4_leastNotHeld_10 : decode cX4_leastNotHeld 10 = .ok (.sipush 256, 3) := by decide +kernel
theorem dX4_leastNotHeld_13 : decode cX4_leastNotHeld 13 = .ok (.if_icmp .ge 55, 3) := by decide +kernel
theorem dX4_leastNotHeld_16 : decode cX4_leastNotHeld 16 = .ok (.iload 4, 2) := by decide +kernel
theorem dX4_leastNotHeld_18 : decode cX4_leastNotHeld 18 = .ok (.invokestatic 121, 3) := by decide +kernel
theorem dX4_leastNotHeld_21 : decode cX4_leastNotHeld 21 = .ok (.istore 5, 2) := by decide +kernel
theorem dX4_leastNotHeld_23 : decode cX4_leastNotHeld 23 = .ok (.iload 4, 2) := by decide +kernel
theorem dX4_leastNotHeld_25 : decode cX4_leastNotHeld 25 = .ok (.aload_n 0, 1) := by decide +kernel
theorem dX4_leastNotHeld_26 : decode cX4_leastNotHeld 26 = .ok (.getfield 28, 3) := by decide +kernel
theorem dX4_leastNotHeld_29 : decode cX4_leastNotHeld 29 = .ok (.iand, 1) := by decide +kernel
theorem dX4_leastNotHeld_30 : decode cX4_leastNotHeld 30 = .ok (.iload 4, 2) := by decide +kernel
theorem dX4_leastNotHeld_32 : decode cX4_leastNotHeld 32 = .ok (.if_icmp .ne 30, 3) := by decide +kernel
theorem dX4_leastNotHeld_35 : decode cX4_leastNotHeld 35 = .ok (.iload 5, 2) := by decide +kernel
theorem dX4_leastNotHeld_37 : decode cX4_leastNotHeld 37 = .ok (.iload_n 3, 1) := by decide +kernel
theorem dX4_leastNotHeld_38 : decode cX4_leastNotHeld 38 = .ok (.if_icmp .ge 24, 3) := by decide +kernel
theorem dX4_leastNotHeld_41 : decode cX4_leastNotHeld 41 = .ok (.aload_n 0, 1) := by decide +kernel
theorem dX4_leastNotHeld_42 : decode cX4_leastNotHeld 42 = .ok (.aload_n 0, 1) := by decide +kernel
theorem dX4_leastNotHeld_43 : decode cX4_leastNotHeld 43 = .ok (.getfield 19, 3) := by decide +kernel
theorem dX4_leastNotHeld_46 : decode cX4_leastNotHeld 46 = .ok (.iload 4, 2) := by decide +kernel
theorem dX4_leastNotHeld_48 : decode cX4_leastNotHeld 48 = .ok (.iaload, 1) := by decide +kernel
theorem dX4_leastNotHeld_49 : decode cX4_leastNotHeld 49 = .ok (.invokevirtual 109, 3) := by decide +kernel
theorem dX4_leastNotHeld_52 : decode cX4_leastNotHeld 52 = .ok (.iload_n 1, 1) := by decide +kernel
theorem dX4_leastNotHeld_53 : decode cX4_leastNotHeld 53 = .ok (.if_icmp .le 9, 3) := by decide +kernel
theorem dX4_leastNotHeld_56 : decode cX4_leastNotHeld 56 = .ok (.iload 4, 2) := by decide +kernel
theorem dX4_leastNotHeld_58 : decode cX4_leastNotHeld 58 = .ok (.istore_n 2, 1) := by decide +kernel
theorem dX4_leastNotHeld_59 : decode cX4_leastNotHeld 59 = .ok (.iload 5, 2) := by decide +kernel
theorem dX4_leastNotHeld_61 : decode cX4_leastNotHeld 61 = .ok (.istore_n 3, 1) := by decide +kernel
theorem dX4_leastNotHeld_62 : decode cX4_leastNotHeld 62 = .ok (.iinc 4 1, 3) := by decide +kernel
theorem dX4_leastNotHeld_65 : decode cX4_leastNotHeld 65 = .ok (.goto (-57), 3) := by decide +kernel
theorem dX4_leastNotHeld_68 : decode cX4_leastNotHeld 68 = .ok (.iload_n 2, 1) := by decide +kernel
theorem dX4_leastNotHeld_69 : decode cX4_leastNotHeld 69 = .ok (.ireturn, 1) := by decide +kernel
theorem dX4_fewestSets_0 : decode cX4_fewestSets 0 = .ok (.iconst 1, 1) := by decide +kernel
theorem dX4_fewestSets_1 : decode cX4_fewestSets 1 = .ok (.istore_n 2, 1) := by decide +kernel
theorem dX4_fewestSets_2 : decode cX4_fewestSets 2 = .ok (.iload_n 2, 1) := by decide +kernel
theorem dX4_fewestSets_3 : decode cX4_fewestSets 3 = .ok (.bipush 8, 2) := by decide +kernel
theorem dX4_fewestSets_5 : decode cX4_fewestSets 5 = .ok (.if_icmp .gt 21, 3) := by decide +kernel
theorem dX4_fewestSets_8 : decode cX4_fewestSets 8 = .ok (.aload_n 0, 1) := by decide +kernel
theorem dX4_fewestSets_9 : decode cX4_fewestSets 9 = .ok (.getfield 15, 3) := by decide +kernel
theorem dX4_fewestSets_12 : decode cX4_fewestSets 12 = .ok (.iload_n 2, 1) := by decide +kernel
theorem dX4_fewestSets_13 : decode cX4_fewestSets 13 = .ok (.iaload, 1) := by decide +kernel
theorem dX4_fewestSets_14 : decode cX4_fewestSets 14 = .ok (.iload_n 1, 1) := by decide +kernel
theorem dX4_fewestSets_15 : decode cX4_fewestSets 15 = .ok (.if_icmp .gt 5, 3) := by decide +kernel
theorem dX4_fewestSets_18 : decode cX4_fewestSets 18 = .ok (.iload_n 2, 1) := by decide +kernel
theorem dX4_fewestSets_19 : decode cX4_fewestSets 19 = .ok (.ireturn, 1) := by decide +kernel
theorem dX4_fewestSets_20 : decode cX4_fewestSets 20 = .ok (.iinc 2 1, 3) := by decide +kernel
theorem dX4_fewestSets_23 : decode cX4_fewestSets 23 = .ok (.goto (-21), 3) := by decide +kernel
theorem dX4_fewestSets_26 : decode cX4_fewestSets 26 = .ok (.bipush (-2), 2) := by decide +kernel
theorem dX4_fewestSets_28 : decode cX4_fewestSets 28 = .ok (.ireturn, 1) := by decide +kernel
theorem dX5_init_0 : decode cX5_init 0 = .ok (.aload_n 0, 1) := by decide +kernel
theorem dX5_init_1 : decode cX5_init 1 = .ok (.invokespecial 3, 3) := by decide +kernel
theorem dX5_init_4 : decode cX5_init 4 = .ok (.aload_n 0, 1) := by decide +kernel
theorem dX5_init_5 : decode cX5_init 5 = .ok (.iconst 0, 1) := by decide +kernel
theorem dX5_init_6 : decode cX5_init 6 = .ok (.putfield 9, 3) := by decide +kernel
theorem dX5_init_9 : decode cX5_init 9 = .ok (.aload_n 0, 1) := by decide +kernel
theorem dX5_init_10 : decode cX5_init 10 = .ok (.iconst (-1), 1) := by decide +kernel
theorem dX5_init_11 : decode cX5_init 11 = .ok (.putfield 15, 3) := by decide +kernel
theorem dX5_init_14 : decode cX5_init 14 = .ok (.aload_n 0, 1) := by decide +kernel
theorem dX5_init_15 : decode cX5_init 15 = .ok (.iconst 0, 1) := by decide +kernel
theorem dX5_init_16 : decode cX5_init 16 = .ok (.putfield 19, 3) := by decide +kernel
theorem dX5_init_19 : decode cX5_init 19 = .ok (.aload_n 0, 1) := by decide +kernel
theorem dX5_init_20 : decode cX5_init 20 = .ok (.iconst (-1), 1) := by decide +kernel
theorem dX5_init_21 : decode cX5_init 21 = .ok (.putfield 22, 3) := by decide +kernel
theorem dX5_init_24 : decode cX5_init 24 = .ok (.aload_n 0, 1) := by decide +kernel
theorem dX5_init_25 : decode cX5_init 25 = .ok (.iconst 0, 1) := by decide +kernel
theorem dX5_init_26 : decode cX5_init 26 = .ok (.putfield 25, 3) := by decide +kernel
theorem dX5_init_29 : decode cX5_init 29 = .ok (.aload_n 0, 1) := by decide +kernel
theorem dX5_init_30 : decode cX5_init 30 = .ok (.iconst 0, 1) := by decide +kernel
theorem dX5_init_31 : decode cX5_init 31 = .ok (.putfield 28, 3) := by decide +kernel
theorem dX5_init_34 : decode cX5_init 34 = .ok (.aload_n 0, 1) := by decide +kernel
theorem dX5_init_35 : decode cX5_init 35 = .ok (.bipush 64, 2) := by decide +kernel
theorem dX5_init_37 : decode cX5_init 37 = .ok (.newarray .int, 2) := by decide +kernel
theorem dX5_init_39 : decode cX5_init 39 = .ok (.putfield 31, 3) := by decide +kernel
theorem dX5_init_42 : decode cX5_init 42 = .ok (.aload_n 0, 1) := by decide +kernel
theorem dX5_init_43 : decode cX5_init 43 = .ok (.bipush 64, 2) := by decide +kernel
theorem dX5_init_45 : decode cX5_init 45 = .ok (.newarray .int, 2) := by decide +kernel
theorem dX5_init_47 : decode cX5_init 47 = .ok (.putfield 35, 3) := by decide +kernel
theorem dX5_init_50 : decode cX5_init 50 = .ok (.aload_n 0, 1) := by decide +kernel
theorem dX5_init_51 : decode cX5_init 51 = .ok (.aload_n 1, 1) := by decide +kernel
theorem dX5_init_52 : decode cX5_init 52 = .ok (.putfield 38, 3) := by decide +kernel
theorem dX5_init_55 : decode cX5_init 55 = .ok (.return_, 1) := by decide +kernel
theorem dX5_refresh_0 : decode cX5_refresh 0 = .ok (.aload_n 0, 1) := by decide +kernel
theorem dX5_refresh_1 : decode cX5_refresh 1 = .ok (.getfield 9, 3) := by decide +kernel
theorem dX5_refresh_4 : decode cX5_refresh 4 = .ok (.ifCond .eq 4, 3) := by decide +kernel
theorem dX5_refresh_7 : decode cX5_refresh 7 = .ok (.return_, 1) := by decide +kernel
theorem dX5_refresh_8 : decode cX5_refresh 8 = .ok (.aload_n 0, 1) := by decide +kernel
theorem dX5_refresh_9 : decode cX5_refresh 9 = .ok (.iconst 1, 1) := by decide +kernel
theorem dX5_refresh_10 : decode cX5_refresh 10 = .ok (.putfield 9, 3) := by decide +kernel
theorem dX5_refresh_13 : decode cX5_refresh 13 = .ok (.aload_n 0, 1) := by decide +kernel
theorem dX5_refresh_14 : decode cX5_refresh 14 = .ok (.invokevirtual 42, 3) := by decide +kernel
theorem dX5_refresh_17 : decode cX5_refresh 17 = .ok (.aload_n 0, 1) := by decide +kernel
theorem dX5_refresh_18 : decode cX5_refresh 18 = .ok (.getfield 38, 3) := by decide +kernel
theorem dX5_refresh_21 : decode cX5_refresh 21 = .ok (.getfield 45, 3) := by decide +kernel
theorem dX5_refresh_24 : decode cX5_refresh 24 = .ok (.invokevirtual 51, 3) := by decide +kernel
theorem dX5_refresh_27 : decode cX5_refresh 27 = .ok (.ifCond .eq 11, 3) := by decide +kernel
theorem dX5_refresh_30 : decode cX5_refresh 30 = .ok (.aload_n 0, 1) := by decide +kernel
theorem dX5_refresh_31 : decode cX5_refresh 31 = .ok (.invokevirtual 57, 3) := by decide +kernel
theorem dX5_refresh_34 : decode cX5_refresh 34 = .ok (.aload_n 0, 1) := by decide +kernel
theorem dX5_refresh_35 : decode cX5_refresh 35 = .ok (.invokevirtual 60, 3) := by decide +kernel
theorem dX5_refresh_38 : decode cX5_refresh 38 = .ok (.return_, 1) := by decide +kernel
theorem dX5_clear_0 : decode cX5_clear 0 = .ok (.aload_n 0, 1) := by decide +kernel
theorem dX5_clear_1 : decode cX5_clear 1 = .ok (.iconst (-1), 1) := by decide +kernel
theorem dX5_clear_2 : decode cX5_clear 2 = .ok (.putfield 15, 3) := by decide +kernel
theorem dX5_clear_5 : decode cX5_clear 5 = .ok (.aload_n 0, 1) := by decide +kernel
theorem dX5_clear_6 : decode cX5_clear 6 = .ok (.iconst (-1), 1) := by decide +kernel
theorem dX5_clear_7 : decode cX5_clear 7 = .ok (.putfield 22, 3) := by decide +kernel
theorem dX5_clear_10 : decode cX5_clear 10 = .ok (.aload_n 0, 1) := by decide +kernel
theorem dX5_clear_11 : decode cX5_clear 11 = .ok (.iconst 0, 1) := by decide +kernel
theorem dX5_clear_12 : decode cX5_clear 12 = .ok (.putfield 28, 3) := by decide +kernel
theorem dX5_clear_15 : decode cX5_clear 15 = .ok (.iconst 0, 1) := by decide +kernel
theorem dX5_clear_16 : decode cX5_clear 16 = .ok (.istore_n 1, 1) := by decide +kernel
theorem dX5_clear_17 : decode cX5_clear 17 = .ok (.iload_n 1, 1) := by decide +kernel
theorem dX5_clear_18 : decode cX5_clear 18 = .ok (.bipush 63, 2) := by decide +kernel
theorem dX5_clear_20 : decode cX5_clear 20 = .ok (.if_icmp .gt 23, 3) := by decide +kernel
theorem dX5_clear_23 : decode cX5_clear 23 = .ok (.aload_n 0, 1) := by decide +kernel
theorem dX5_clear_24 : decode cX5_clear 24 = .ok (.getfield 31, 3) := by decide +kernel
theorem dX5_clear_27 : decode cX5_clear 27 = .ok (.iload_n 1, 1) := by decide +kernel
theorem dX5_clear_28 : decode cX5_clear 28 = .ok (.iconst 0, 1) := by decide +kernel
theorem dX5_clear_29 : decode cX5_clear 29 = .ok (.iastore, 1) := by decide +kernel
theorem dX5_clear_30 : decode cX5_clear 30 = .ok (.aload_n 0, 1) := by decide +kernel
theorem dX5_clear_31 : decode cX5_clear 31 = .ok (.getfield 35, 3) := by decide +kernel
theorem dX5_clear_34 : decode cX5_clear 34 = .ok (.iload_n 1, 1) := by decide +kernel
theorem dX5_clear_35 : decode cX5_clear 35 = .ok (.iconst 0, 1) := by decide +kernel
theorem dX5_clear_36 : decode cX5_clear 36 = .ok (.iastore, 1) := by decide +kernel
theorem dX5_clear_37 : decode cX5_clear 37 = .ok (.iinc 1 1, 3) := by decide +kernel
theorem dX5_clear_40 : decode cX5_clear 40 = .ok (.goto (-23), 3) := by decide +kernel
theorem dX5_clear_43 : decode cX5_clear 43 = .ok (.return_, 1) := by decide +kernel
theorem dX5_lookAtAll_0 : decode cX5_lookAtAll 0 = .ok (.aload_n 0, 1) := by decide +kernel
theorem dX5_lookAtAll_1 : decode cX5_lookAtAll 1 = .ok (.getfield 38, 3) := by decide +kernel
theorem dX5_lookAtAll_4 : decode cX5_lookAtAll 4 = .ok (.getfield 63, 3) := by decide +kernel
theorem dX5_lookAtAll_7 : decode cX5_lookAtAll 7 = .ok (.astore_n 1, 1) := by decide +kernel
theorem dX5_lookAtAll_8 : decode cX5_lookAtAll 8 = .ok (.iconst 0, 1) := by decide +kernel
theorem dX5_lookAtAll_9 : decode cX5_lookAtAll 9 = .ok (.istore_n 2, 1) := by decide +kernel
theorem dX5_lookAtAll_10 : decode cX5_lookAtAll 10 = .ok (.aload_n 0, 1) := by decide +kernel
theorem dX5_lookAtAll_11 : decode cX5_lookAtAll 11 = .ok (.getfield 38, 3) := by decide +kernel
theorem dX5_lookAtAll_14 : decode cX5_lookAtAll 14 = .ok (.invokevirtual 67, 3) := by decide +kernel
theorem dX5_lookAtAll_17 : decode cX5_lookAtAll 17 = .ok (.istore_n 3, 1) := by decide +kernel
theorem dX5_lookAtAll_18 : decode cX5_lookAtAll 18 = .ok (.iload_n 3, 1) := by decide +kernel
theorem dX5_lookAtAll_19 : decode cX5_lookAtAll 19 = .ok (.ifCond .le 44, 3) := by decide +kernel
theorem dX5_lookAtAll_22 : decode cX5_lookAtAll 22 = .ok (.iload_n 2, 1) := by decide +kernel
theorem dX5_lookAtAll_23 : decode cX5_lookAtAll 23 = .ok (.ifCond .lt 40, 3) := by decide +kernel
theorem dX5_lookAtAll_26 : decode cX5_lookAtAll 26 = .ok (.aload_n 1, 1) := by decide +kernel
theorem dX5_lookAtAll_27 : decode cX5_lookAtAll 27 = .ok (.iload_n 2, 1) := by decide +kernel
theorem dX5_lookAtAll_28 : decode cX5_lookAtAll 28 = .ok (.invokevirtual 71, 3) := by decide +kernel
theorem dX5_lookAtAll_31 : decode cX5_lookAtAll 31 = .ok (.aload_n 0, 1) := by decide +kernel
theorem dX5_lookAtAll_32 : decode cX5_lookAtAll 32 = .ok (.getfield 38, 3) := by decide +kernel
theorem dX5_lookAtAll_35 : decode cX5_lookAtAll 35 = .ok (.invokevirtual 77, 3) := by decide +kernel
theorem dX5_lookAtAll_38 : decode cX5_lookAtAll 38 = .ok (.ifCond .eq 8, 3) := by decide +kernel
theorem dX5_lookAtAll_41 : decode cX5_lookAtAll 41 = .ok (.aload_n 0, 1) := by decide +kernel
theorem dX5_lookAtAll_42 : decode cX5_lookAtAll 42 = .ok (.aload_n 1, 1) := by decide +kernel
theorem dX5_lookAtAll_43 : decode cX5_lookAtAll 43 = .ok (.invokevirtual 80, 3) := by decide +kernel
theorem dX5_lookAtAll_46 : decode cX5_lookAtAll 46 = .ok (.aload_n 1, 1) := by decide +kernel
theorem dX5_lookAtAll_47 : decode cX5_lookAtAll 47 = .ok (.aload_n 1, 1) := by decide +kernel
theorem dX5_lookAtAll_48 : decode cX5_lookAtAll 48 = .ok (.getfield 84, 3) := by decide +kernel
theorem dX5_lookAtAll_51 : decode cX5_lookAtAll 51 = .ok (.iconst 1, 1) := by decide +kernel
theorem dX5_lookAtAll_52 : decode cX5_lookAtAll 52 = .ok (.isub, 1) := by decide +kernel
theorem dX5_lookAtAll_53 : decode cX5_lookAtAll 53 = .ok (.invokevirtual 87, 3) := by decide +kernel
theorem dX5_lookAtAll_56 : decode cX5_lookAtAll 56 = .ok (.istore_n 2, 1) := by decide +kernel
theorem dX5_lookAtAll_57 : decode cX5_lookAtAll 57 = .ok (.iinc 3 (-1), 3) := by decide +kernel
theorem dX5_lookAtAll_60 : decode cX5_lookAtAll 60 = .ok (.goto (-42), 3) := by decide +kernel
theorem dX5_lookAtAll_63 : decode cX5_lookAtAll 63 = .ok (.return_, 1) := by decide +kernel
theorem dX5_lookAtOne_0 : decode cX5_lookAtOne 0 = .ok (.aload_n 1, 1) := by decide +kernel
theorem dX5_lookAtOne_1 : decode cX5_lookAtOne 1 = .ok (.invokevirtual 91, 3) := by decide +kernel
theorem dX5_lookAtOne_4 : decode cX5_lookAtOne 4 = .ok (.istore_n 2, 1) := by decide +kernel
theorem dX5_lookAtOne_5 : decode cX5_lookAtOne 5 = .ok (.iconst 0, 1) := by decide +kernel
theorem dX5_lookAtOne_6 : decode cX5_lookAtOne 6 = .ok (.istore_n 3, 1) := by decide +kernel
theorem dX5_lookAtOne_7 : decode cX5_lookAtOne 7 = .ok (.iconst 0, 1) := by decide +kernel
theorem dX5_lookAtOne_8 : decode cX5_lookAtOne 8 = .ok (.istore 4, 2) := by decide +kernel
theorem dX5_lookAtOne_10 : decode cX5_lookAtOne 10 = .ok (.iconst 0, 1) := by decide +kernel
theorem dX5_lookAtOne_11 : decode cX5_lookAtOne 11 = .ok (.istore 5, 2) := by decide +kernel
theorem dX5_lookAtOne_13 : decode cX5_lookAtOne 13 = .ok (.iload 5, 2) := by decide +kernel
theorem dX5_lookAtOne_15 : decode cX5_lookAtOne 15 = .ok (.aload_n 0, 1) := by decide +kernel
theorem dX5_lookAtOne_16 : decode cX5_lookAtOne 16 = .ok (.getfield 38, 3) := by decide +kernel
theorem dX5_lookAtOne_19 : decode cX5_lookAtOne 19 = .ok (.getfield 94, 3) := by decide +kernel
theorem dX5_lookAtOne_22 : decode cX5_lookAtOne 22 = .ok (.if_icmp .ge 36, 3) := by decide +kernel
theorem dX5_lookAtOne_25 : decode cX5_lookAtOne 25 = .ok (.aload_n 1, 1) := by decide +kernel
theorem dX5_lookAtOne_26 : decode cX5_lookAtOne 26 = .ok (.getfield 97, 3) := by decide +kernel
theorem dX5_lookAtOne_29 : decode cX5_lookAtOne 29 = .ok (.iload_n 2, 1) := by decide +kernel
theorem dX5_lookAtOne_30 : decode cX5_lookAtOne 30 = .ok (.iload 5, 2) := by decide +kernel
theorem dX5_lookAtOne_32 : decode cX5_lookAtOne 32 = .ok (.iadd, 1) := by decide +kernel
theorem dX5_lookAtOne_33 : decode cX5_lookAtOne 33 = .ok (.iaload, 1) := by decide +kernel
theorem dX5_lookAtOne_34 : decode cX5_lookAtOne 34 = .ok (.istore 6, 2) := by decide +kernel
theorem dX5_lookAtOne_36 : decode cX5_lookAtOne 36 = .ok (.iload 4, 2) := by decide +kernel
theorem dX5_lookAtOne_38 : decode cX5_lookAtOne 38 = .ok (.iload 6, 2) := by decide +kernel
theorem dX5_lookAtOne_40 : decode cX5_lookAtOne 40 = .ok (.iadd, 1) := by decide +kernel
theorem dX5_lookAtOne_41 : decode cX5_lookAtOne 41 = .ok (.istore 4, 2) := by decide +kernel
theorem dX5_lookAtOne_43 : decode cX5_lookAtOne 43 = .ok (.iload 6, 2) := by decide +kernel
theorem dX5_lookAtOne_45 : decode cX5_lookAtOne 45 = .ok (.iload_n 3, 1) := by decide +kernel
theorem dX5_lookAtOne_46 : decode cX5_lookAtOne 46 = .ok (.if_icmp .le 6, 3) := by decide +kernel
theorem dX5_lookAtOne_49 : decode cX5_lookAtOne 49 = .ok (.iload 6, 2) := by decide +kernel
theorem dX5_lookAtOne_51 : decode cX5_lookAtOne 51 = .ok (.istore_n 3, 1) := by decide +kernel
theorem dX5_lookAtOne_52 : decode cX5_lookAtOne 52 = .ok (.iinc 5 1, 3) := by decide +kernel
theorem dX5_lookAtOne_55 : decode cX5_lookAtOne 55 = .ok (.goto (-42), 3) := by decide +kernel
theorem dX5_lookAtOne_58 : decode cX5_lookAtOne 58 = .ok (.iload_n 3, 1) := by decide +kernel
theorem dX5_lookAtOne_59 : decode cX5_lookAtOne 59 = .ok (.bipush 63, 2) := by decide +kernel
theorem dX5_lookAtOne_61 : decode cX5_lookAtOne 61 = .ok (.if_icmp .le 4, 3) := by decide +kernel
theorem dX5_lookAtOne_64 : decode cX5_lookAtOne 64 = .ok (.return_, 1) := by decide +kernel
theorem dX5_lookAtOne_65 : decode cX5_lookAtOne 65 = .ok (.aload_n 0, 1) := by decide +kernel
theorem dX5_lookAtOne_66 : decode cX5_lookAtOne 66 = .ok (.getfield 31, 3) := by decide +kernel
theorem dX5_lookAtOne_69 : decode cX5_lookAtOne 69 = .ok (.iload_n 3, 1) := by decide +kernel
theorem dX5_lookAtOne_70 : decode cX5_lookAtOne 70 = .ok (.dup2, 1) := by decide +kernel
theorem dX5_lookAtOne_71 : decode cX5_lookAtOne 71 = .ok (.iaload, 1) := by decide +kernel
theorem dX5_lookAtOne_72 : decode cX5_lookAtOne 72 = .ok (.iconst 1, 1) := by decide +kernel
theorem dX5_lookAtOne_73 : decode cX5_lookAtOne 73 = .ok (.iadd, 1) := by decide +kernel
theorem dX5_lookAtOne_74 : decode cX5_lookAtOne 74 = .ok (.iastore, 1) := by decide +kernel
theorem dX5_lookAtOne_75 : decode cX5_lookAtOne 75 = .ok (.aload_n 0, 1) := by decide +kernel
theorem dX5_lookAtOne_76 : decode cX5_lookAtOne 76 = .ok (.getfield 35, 3) := by decide +kernel
theorem dX5_lookAtOne_79 : decode cX5_lookAtOne 79 = .ok (.iload_n 3, 1) := by decide +kernel
theorem dX5_lookAtOne_80 : decode cX5_lookAtOne 80 = .ok (.dup2, 1) := by decide +kernel
theorem dX5_lookAtOne_81 : decode cX5_lookAtOne 81 = .ok (.iaload, 1) := by decide +kernel
theorem dX5_lookAtOne_82 : decode cX5_lookAtOne 82 = .ok (.aload_n 1, 1) := by decide +kernel
theorem dX5_lookAtOne_83 : decode cX5_lookAtOne 83 = .ok (.invokevirtual 100, 3) := by decide +kernel
theorem dX5_lookAtOne_86 : decode cX5_lookAtOne 86 = .ok (.ior, 1) := by decide +kernel
theorem dX5_lookAtOne_87 : decode cX5_lookAtOne 87 = .ok (.iastore, 1) := by decide +kernel
theorem dX5_lookAtOne_88 : decode cX5_lookAtOne 88 = .ok (.aload_n 0, 1) := by decide +kernel
theorem dX5_lookAtOne_89 : decode cX5_lookAtOne 89 = .ok (.getfield 15, 3) := by decide +kernel
theorem dX5_lookAtOne_92 : decode cX5_lookAtOne 92 = .ok (.iconst (-1), 1) := by decide +kernel
theorem dX5_lookAtOne_93 : decode cX5_lookAtOne 93 = .ok (.if_icmp .eq 11, 3) := by decide +kernel
theorem dX5_lookAtOne_96 : decode cX5_lookAtOne 96 = .ok (.iload_n 3, 1) := by decide +kernel
theorem dX5_lookAtOne_97 : decode cX5_lookAtOne 97 = .ok (.aload_n 0, 1) := by decide +kernel
theorem dX5_lookAtOne_98 : decode cX5_lookAtOne 98 = .ok (.getfield 15, 3) := by decide +kernel
theorem dX5_lookAtOne_101 : decode cX5_lookAtOne 101 = .ok (.if_icmp .ge 16, 3) := by decide +kernel
theorem dX5_lookAtOne_104 : decode cX5_lookAtOne 104 = .ok (.aload_n 0, 1) := by decide +kernel
theorem dX5_lookAtOne_105 : decode cX5_lookAtOne 105 = .ok (.iload_n 3, 1) := by decide +kernel
theorem dX5_lookAtOne_106 : decode cX5_lookAtOne 106 = .ok (.putfield 15, 3) := by decide +kernel
theorem dX5_lookAtOne_109 : decode cX5_lookAtOne 109 = .ok (.aload_n 0, 1) := by decide +kernel
theorem dX5_lookAtOne_110 : decode cX5_lookAtOne 110 = .ok (.aload_n 1, 1) := by decide +kernel
theorem dX5_lookAtOne_111 : decode cX5_lookAtOne 111 = .ok (.invokevirtual 103, 3) := by decide +kernel
theorem dX5_lookAtOne_114 : decode cX5_lookAtOne 114 = .ok (.putfield 19, 3) := by decide +kernel
theorem dX5_lookAtOne_117 : decode cX5_lookAtOne 117 = .ok (.aload_n 0, 1) := by decide +kernel
theorem dX5_lookAtOne_118 : decode cX5_lookAtOne 118 = .ok (.getfield 22, 3) := by decide +kernel
theorem dX5_lookAtOne_121 : decode cX5_lookAtOne 121 = .ok (.iconst (-1), 1) := by decide +kernel
theorem dX5_lookAtOne_122 : decode cX5_lookAtOne 122 = .ok (.if_icmp .eq 12, 3) := by decide +kernel
theorem dX5_lookAtOne_125 : decode cX5_lookAtOne 125 = .ok (.iload 4, 2) := by decide +kernel
theorem dX5_lookAtOne_127 : decode cX5_lookAtOne 127 = .ok (.aload_n 0, 1) := by decide +kernel
theorem dX5_lookAtOne_128 : decode cX5_lookAtOne 128 = .ok (.getfield 22, 3) := by decide +kernel
theorem dX5_lookAtOne_131 : decode cX5_lookAtOne 131 = .ok (.if_icmp .ge 22, 3) := by decide +kernel
theorem dX5_lookAtOne_134 : decode cX5_lookAtOne 134 = .ok (.aload_n 0, 1) := by decide +kernel
theorem dX5_lookAtOne_135 : decode cX5_lookAtOne 135 = .ok (.iload 4, 2) := by decide +kernel
theorem dX5_lookAtOne_137 : decode cX5_lookAtOne 137 = .ok (.putfield 22, 3) := by decide +kernel
theorem dX5_lookAtOne_140 : decode cX5_lookAtOne 140 = .ok (.aload_n 0, 1) := by decide +kernel
theorem dX5_lookAtOne_141 : decode cX5_lookAtOne 141 = .ok (.aload_n 1, 1) := by decide +kernel
theorem dX5_lookAtOne_142 : decode cX5_lookAtOne 142 = .ok (.invokevirtual 103, 3) := by decide +kernel
theorem dX5_lookAtOne_145 : decode cX5_lookAtOne 145 = .ok (.putfield 25, 3) := by decide +kernel
theorem dX5_lookAtOne_148 : decode cX5_lookAtOne 148 = .ok (.aload_n 0, 1) := by decide +kernel
theorem dX5_lookAtOne_149 : decode cX5_lookAtOne 149 = .ok (.iconst 0, 1) := by decide +kernel
theorem dX5_lookAtOne_150 : decode cX5_lookAtOne 150 = .ok (.putfield 28, 3) := by decide +kernel
theorem dX5_lookAtOne_153 : decode cX5_lookAtOne 153 = .ok (.iload 4, 2) := by decide +kernel
theorem dX5_lookAtOne_155 : decode cX5_lookAtOne 155 = .ok (.aload_n 0, 1) := by decide +kernel
theorem dX5_lookAtOne_156 : decode cX5_lookAtOne 156 = .ok (.getfield 22, 3) := by decide +kernel
theorem dX5_lookAtOne_159 : decode cX5_lookAtOne 159 = .ok (.if_icmp .ne 13, 3) := by decide +kernel
theorem dX5_lookAtOne_162 : decode cX5_lookAtOne 162 = .ok (.aload_n 0, 1) := by decide +kernel
theorem dX5_lookAtOne_163 : decode cX5_lookAtOne 163 = .ok (.dup, 1) := by decide +kernel
theorem dX5_lookAtOne_164 : decode cX5_lookAtOne 164 = .ok (.getfield 28, 3) := by decide +kernel
theorem dX5_lookAtOne_167 : decode cX5_lookAtOne 167 = .ok (.iconst 1, 1) := by decide +kernel
theorem dX5_lookAtOne_168 : decode cX5_lookAtOne 168 = .ok (.iadd, 1) := by decide +kernel
theorem dX5_lookAtOne_169 : decode cX5_lookAtOne 169 = .ok (.putfield 28, 3) := by decide +kernel
theorem dX5_lookAtOne_172 : decode cX5_lookAtOne 172 = .ok (.return_, 1) := by decide +kernel
theorem dX5_addUp_0 : decode cX5_addUp 0 = .ok (.iconst 1, 1) := by decide +kernel
theorem dX5_addUp_1 : decode cX5_addUp 1 = .ok (.istore_n 1, 1) := by decide +kernel
theorem dX5_addUp_2 : decode cX5_addUp 2 = .ok (.iload_n 1, 1) := by decide +kernel
theorem dX5_addUp_3 : decode cX5_addUp 3 = .ok (.bipush 63, 2) := by decide +kernel
theorem dX5_addUp_5 : decode cX5_addUp 5 = .ok (.if_icmp .gt 43, 3) := by decide +kernel
theorem dX5_addUp_8 : decode cX5_addUp 8 = .ok (.aload_n 0, 1) := by decide +kernel
theorem dX5_addUp_9 : decode cX5_addUp 9 = .ok (.getfield 31, 3) := by decide +kernel
theorem dX5_addUp_12 : decode cX5_addUp 12 = .ok (.iload_n 1, 1) := by decide +kernel
theorem dX5_addUp_13 : decode cX5_addUp 13 = .ok (.dup2, 1) := by decide +kernel
theorem dX5_addUp_14 : decode cX5_addUp 14 = .ok (.iaload, 1) := by decide +kernel
theorem dX5_addUp_15 : decode cX5_addUp 15 = .ok (.aload_n 0, 1) := by decide +kernel
theorem dX5_addUp_16 : decode cX5_addUp 16 = .ok (.getfield 31, 3) := by decide +kernel
theorem dX5_addUp_19 : decode cX5_addUp 19 = .ok (.iload_n 1, 1) := by decide +kernel
theorem dX5_addUp_20 : decode cX5_addUp 20 = .ok (.iconst 1, 1) := by decide +kernel
theorem dX5_addUp_21 : decode cX5_addUp 21 = .ok (.isub, 1) := by decide +kernel
theorem dX5_addUp_22 : decode cX5_addUp 22 = .ok (.iaload, 1) := by decide +kernel
theorem dX5_addUp_23 : decode cX5_addUp 23 = .ok (.iadd, 1) := by decide +kernel
theorem dX5_addUp_24 : decode cX5_addUp 24 = .ok (.iastore, 1) := by decide +kernel
theorem dX5_addUp_25 : decode cX5_addUp 25 = .ok (.aload_n 0, 1) := by decide +kernel
theorem dX5_addUp_26 : decode cX5_addUp 26 = .ok (.getfield 35, 3) := by decide +kernel
theorem dX5_addUp_29 : decode cX5_addUp 29 = .ok (.iload_n 1, 1) := by decide +kernel
theorem dX5_addUp_30 : decode cX5_addUp 30 = .ok (.dup2, 1) := by decide +kernel
theorem dX5_addUp_31 : decode cX5_addUp 31 = .ok (.iaload, 1) := by decide +kernel
theorem dX5_addUp_32 : decode cX5_addUp 32 = .ok (.aload_n 0, 1) := by decide +kernel
theorem dX5_addUp_33 : decode cX5_addUp 33 = .ok (.getfield 35, 3) := by decide +kernel
theorem dX5_addUp_36 : decode cX5_addUp 36 = .ok (.iload_n 1, 1) := by decide +kernel
theorem dX5_addUp_37 : decode cX5_addUp 37 = .ok (.iconst 1, 1) := by decide +kernel
theorem dX5_addUp_38 : decode cX5_addUp 38 = .ok (.isub, 1) := by decide +kernel
theorem dX5_addUp_39 : decode cX5_addUp 39 = .ok (.iaload, 1) := by decide +kernel
theorem dX5_addUp_40 : decode cX5_addUp 40 = .ok (.ior, 1) := by decide +kernel
theorem dX5_addUp_41 : decode cX5_addUp 41 = .ok (.iastore, 1) := by decide +kernel
theorem dX5_addUp_42 : decode cX5_addUp 42 = .ok (.iinc 1 1, 3) := by decide +kernel
theorem dX5_addUp_45 : decode cX5_addUp 45 = .ok (.goto (-43), 3) := by decide +kernel
theorem dX5_addUp_48 : decode cX5_addUp 48 = .ok (.return_, 1) := by decide +kernel
theorem dX6_init_0 : decode cX6_init 0 = .ok (.aload_n 0, 1) := by decide +kernel
theorem dX6_init_1 : decode cX6_init 1 = .ok (.invokespecial 3, 3) := by decide +kernel
theorem dX6_init_4 : decode cX6_init 4 = .ok (.aload_n 0, 1) := by decide +kernel
theorem dX6_init_5 : decode cX6_init 5 = .ok (.iconst 0, 1) := by decide +kernel
theorem dX6_init_6 : decode cX6_init 6 = .ok (.putfield 9, 3) := by decide +kernel
theorem dX6_init_9 : decode cX6_init 9 = .ok (.aload_n 0, 1) := by decide +kernel
theorem dX6_init_10 : decode cX6_init 10 = .ok (.bipush 40, 2) := by decide +kernel
theorem dX6_init_12 : decode cX6_init 12 = .ok (.newarray .int, 2) := by decide +kernel
theorem dX6_init_14 : decode cX6_init 14 = .ok (.putfield 15, 3) := by decide +kernel
theorem dX6_init_17 : decode cX6_init 17 = .ok (.aload_n 0, 1) := by decide +kernel
theorem dX6_init_18 : decode cX6_init 18 = .ok (.bipush 40, 2) := by decide +kernel
theorem dX6_init_20 : decode cX6_init 20 = .ok (.newarray .byte, 2) := by decide +kernel
theorem dX6_init_22 : decode cX6_init 22 = .ok (.putfield 19, 3) := by decide +kernel
theorem dX6_init_25 : decode cX6_init 25 = .ok (.return_, 1) := by decide +kernel
theorem dX6_add_0 : decode cX6_add 0 = .ok (.bipush 24, 2) := by decide +kernel
theorem dX6_add_2 : decode cX6_add 2 = .ok (.istore_n 2, 1) := by decide +kernel
theorem dX6_add_3 : decode cX6_add 3 = .ok (.iload_n 2, 1) := by decide +kernel
theorem dX6_add_4 : decode cX6_add 4 = .ok (.ifCond .lt 41, 3) := by decide +kernel
theorem dX6_add_7 : decode cX6_add 7 = .ok (.aload_n 0, 1) := by decide +kernel
theorem dX6_add_8 : decode cX6_add 8 = .ok (.getfield 9, 3) := by decide +kernel
theorem dX6_add_11 : decode cX6_add 11 = .ok (.bipush 40, 2) := by decide +kernel
theorem dX6_add_13 : decode cX6_add 13 = .ok (.if_icmp .ge 32, 3) := by decide +kernel
theorem dX6_add_16 : decode cX6_add 16 = .ok (.aload_n 0, 1) := by decide +kernel
theorem dX6_add_17 : decode cX6_add 17 = .ok (.getfield 19, 3) := by decide +kernel
theorem dX6_add_20 : decode cX6_add 20 = .ok (.aload_n 0, 1) := by decide +kernel
theorem dX6_add_21 : decode cX6_add 21 = .ok (.getfield 9, 3) := by decide +kernel
theorem dX6_add_24 : decode cX6_add 24 = .ok (.iload_n 1, 1) := by decide +kernel
theorem dX6_add_25 : decode cX6_add 25 = .ok (.iload_n 2, 1) := by decide +kernel
theorem dX6_add_26 : decode cX6_add 26 = .ok (.ishr, 1) := by decide +kernel
theorem dX6_add_27 : decode cX6_add 27 = .ok (.i2b, 1) := by decide +kernel
theorem dX6_add_28 : decode cX6_add 28 = .ok (.bastore, 1) := by decide +kernel
theorem dX6_add_29 : decode cX6_add 29 = .ok (.aload_n 0, 1) := by decide +kernel
theorem dX6_add_30 : decode cX6_add 30 = .ok (.dup, 1) := by decide +kernel
theorem dX6_add_31 : decode cX6_add 31 = .ok (.getfield 9, 3) := by decide +kernel
theorem dX6_add_34 : decode cX6_add 34 = .ok (.iconst 1, 1) := by decide +kernel
theorem dX6_add_35 : decode cX6_add 35 = .ok (.iadd, 1) := by decide +kernel
theorem dX6_add_36 : decode cX6_add 36 = .ok (.putfield 9, 3) := by decide +kernel
theorem dX6_add_39 : decode cX6_add 39 = .ok (.iinc 2 (-8), 3) := by decide +kernel
theorem dX6_add_42 : decode cX6_add 42 = .ok (.goto (-39), 3) := by decide +kernel
theorem dX6_add_45 : decode cX6_add 45 = .ok (.return_, 1) := by decide +kernel
theorem dX6_take_0 : decode cX6_take 0 = .ok (.aload_n 0, 1) := by decide +kernel
theorem dX6_take_1 : decode cX6_take 1 = .ok (.getfield 9, 3) := by decide +kernel
theorem dX6_take_4 : decode cX6_take 4 = .ok (.istore_n 2, 1) := by decide +kernel
theorem dX6_take_5 : decode cX6_take 5 = .ok (.aload_n 0, 1) := by decide +kernel
theorem dX6_take_6 : decode cX6_take 6 = .ok (.iconst 0, 1) := by decide +kernel
theorem dX6_take_7 : decode cX6_take 7 = .ok (.putfield 9, 3) := by decide +kernel
theorem dX6_take_10 : decode cX6_take 10 = .ok (.iconst 0, 1) := by decide +kernel
theorem dX6_take_11 : decode cX6_take 11 = .ok (.istore_n 3, 1) := by decide +kernel
theorem dX6_take_12 : decode cX6_take 12 = .ok (.iload_n 3, 1) := by decide +kernel
theorem dX6_take_13 : decode cX6_take 13 = .ok (.iload_n 2, 1) := by decide +kernel
theorem dX6_take_14 : decode cX6_take 14 = .ok (.if_icmp .ge 41, 3) := by decide +kernel
theorem dX6_take_17 : decode cX6_take 17 = .ok (.aload_n 0, 1) := by decide +kernel
theorem dX6_take_18 : decode cX6_take 18 = .ok (.getfield 19, 3) := by decide +kernel
theorem dX6_take_21 : decode cX6_take 21 = .ok (.iload_n 3, 1) := by decide +kernel
theorem dX6_take_22 : decode cX6_take 22 = .ok (.baload, 1) := by decide +kernel
theorem dX6_take_23 : decode cX6_take 23 = .ok (.bipush 97, 2) := by decide +kernel
theorem dX6_take_25 : decode cX6_take 25 = .ok (.isub, 1) := by decide +kernel
theorem dX6_take_26 : decode cX6_take 26 = .ok (.istore 4, 2) := by decide +kernel
theorem dX6_take_28 : decode cX6_take 28 = .ok (.iload 4, 2) := by decide +kernel
theorem dX6_take_30 : decode cX6_take 30 = .ok (.ifCond .lt 9, 3) := by decide +kernel
theorem dX6_take_33 : decode cX6_take 33 = .ok (.iload 4, 2) := by decide +kernel
theorem dX6_take_35 : decode cX6_take 35 = .ok (.iload_n 1, 1) := by decide +kernel
theorem dX6_take_36 : decode cX6_take 36 = .ok (.if_icmp .lt 5, 3) := by decide +kernel
theorem dX6_take_39 : decode cX6_take 39 = .ok (.iconst (-1), 1) := by decide +kernel
theorem dX6_take_40 : decode cX6_take 40 = .ok (.ireturn, 1) := by decide +kernel
theorem dX6_take_41 : decode cX6_take 41 = .ok (.aload_n 0, 1) := by decide +kernel
theorem dX6_take_42 : decode cX6_take 42 = .ok (.getfield 15, 3) := by decide +kernel
theorem dX6_take_45 : decode cX6_take 45 = .ok (.iload_n 3, 1) := by decide +kernel
theorem dX6_take_46 : decode cX6_take 46 = .ok (.iload 4, 2) := by decide +kernel
theorem dX6_take_48 : decode cX6_take 48 = .ok (.iastore, 1) := by decide +kernel
theorem dX6_take_49 : decode cX6_take 49 = .ok (.iinc 3 1, 3) := by decide +kernel
theorem dX6_take_52 : decode cX6_take 52 = .ok (.goto (-40), 3) := by decide +kernel
theorem dX6_take_55 : decode cX6_take 55 = .ok (.iload_n 2, 1) := by decide +kernel
theorem dX6_take_56 : decode cX6_take 56 = .ok (.ireturn, 1) := by decide +kernel
theorem dX7_init_0 : decode cX7_init 0 = .ok (.aload_n 0, 1) := by decide +kernel
theorem dX7_init_1 : decode cX7_init 1 = .ok (.invokespecial 3, 3) := by decide +kernel
theorem dX7_init_4 : decode cX7_init 4 = .ok (.aload_n 0, 1) := by decide +kernel
theorem dX7_init_5 : decode cX7_init 5 = .ok (.iconst 0, 1) := by decide +kernel
theorem dX7_init_6 : decode cX7_init 6 = .ok (.putfield 9, 3) := by decide +kernel
theorem dX7_init_9 : decode cX7_init 9 = .ok (.aload_n 0, 1) := by decide +kernel
theorem dX7_init_10 : decode cX7_init 10 = .ok (.bipush 120, 2) := by decide +kernel
theorem dX7_init_12 : decode cX7_init 12 = .ok (.newarray .int, 2) := by decide +kernel
theorem dX7_init_14 : decode cX7_init 14 = .ok (.putfield 15, 3) := by decide +kernel
theorem dX7_init_17 : decode cX7_init 17 = .ok (.aload_n 0, 1) := by decide +kernel
theorem dX7_init_18 : decode cX7_init 18 = .ok (.iconst 5, 1) := by decide +kernel
theorem dX7_init_19 : decode cX7_init 19 = .ok (.newarray .int, 2) := by decide +kernel
theorem dX7_init_21 : decode cX7_init 21 = .ok (.putfield 19, 3) := by decide +kernel
theorem dX7_init_24 : decode cX7_init 24 = .ok (.return_, 1) := by decide +kernel
theorem dX7_has_0 : decode cX7_has 0 = .ok (.iload_n 1, 1) := by decide +kernel
theorem dX7_has_1 : decode cX7_has 1 = .ok (.ifCond .lt 15, 3) := by decide +kernel
theorem dX7_has_4 : decode cX7_has 4 = .ok (.iload_n 1, 1) := by decide +kernel
theorem dX7_has_5 : decode cX7_has 5 = .ok (.aload_n 0, 1) := by decide +kernel
theorem dX7_has_6 : decode cX7_has 6 = .ok (.getfield 9, 3) := by decide +kernel
theorem dX7_has_9 : decode cX7_has 9 = .ok (.if_icmp .ge 7, 3) := by decide +kernel
theorem dX7_has_12 : decode cX7_has 12 = .ok (.iconst 1, 1) := by decide +kernel
theorem dX7_has_13 : decode cX7_has 13 = .ok (.goto 4, 3) := by decide +kernel
theorem dX7_has_16 : decode cX7_has 16 = .ok (.iconst 0, 1) := by decide +kernel
theorem dX7_has_17 : decode cX7_has 17 = .ok (.ireturn, 1) := by decide +kernel
theorem dX7_start_0 : decode cX7_start 0 = .ok (.iload_n 1, 1) := by decide +kernel
theorem dX7_start_1 : decode cX7_start 1 = .ok (.bipush 24, 2) := by decide +kernel
theorem dX7_start_3 : decode cX7_start 3 = .ok (.imul, 1) := by decide +kernel
theorem dX7_start_4 : decode cX7_start 4 = .ok (.ireturn, 1) := by decide +kernel
theorem dX7_add_0 : decode cX7_add 0 = .ok (.aload_n 1, 1) := by decide +kernel
theorem dX7_add_1 : decode cX7_add 1 = .ok (.iconst 0, 1) := by decide +kernel
theorem dX7_add_2 : decode cX7_add 2 = .ok (.aload_n 0, 1) := by decide +kernel
theorem dX7_add_3 : decode cX7_add 3 = .ok (.getfield 15, 3) := by decide +kernel
theorem dX7_add_6 : decode cX7_add 6 = .ok (.aload_n 0, 1) := by decide +kernel
theorem dX7_add_7 : decode cX7_add 7 = .ok (.aload_n 0, 1) := by decide +kernel
theorem dX7_add_8 : decode cX7_add 8 = .ok (.getfield 9, 3) := by decide +kernel
theorem dX7_add_11 : decode cX7_add 11 = .ok (.invokevirtual 22, 3) := by decide +kernel
theorem dX7_add_14 : decode cX7_add 14 = .ok (.iload_n 2, 1) := by decide +kernel
theorem dX7_add_15 : decode cX7_add 15 = .ok (.invokestatic 26, 3) := by decide +kernel
theorem dX7_add_18 : decode cX7_add 18 = .ok (.aload_n 0, 1) := by decide +kernel
theorem dX7_add_19 : decode cX7_add 19 = .ok (.getfield 19, 3) := by decide +kernel
theorem dX7_add_22 : decode cX7_add 22 = .ok (.aload_n 0, 1) := by decide +kernel
theorem dX7_add_23 : decode cX7_add 23 = .ok (.getfield 9, 3) := by decide +kernel
theorem dX7_add_26 : decode cX7_add 26 = .ok (.iload_n 2, 1) := by decide +kernel
theorem dX7_add_27 : decode cX7_add 27 = .ok (.iastore, 1) := by decide +kernel
theorem dX7_add_28 : decode cX7_add 28 = .ok (.aload_n 0, 1) := by decide +kernel
theorem dX7_add_29 : decode cX7_add 29 = .ok (.dup, 1) := by decide +kernel
theorem dX7_add_30 : decode cX7_add 30 = .ok (.getfield 9, 3) := by decide +kernel
theorem dX7_add_33 : decode cX7_add 33 = .ok (.iconst 1, 1) := by decide +kernel
theorem dX7_add_34 : decode cX7_add 34 = .ok (.iadd, 1) := by decide +kernel
theorem dX7_add_35 : decode cX7_add 35 = .ok (.putfield 9, 3) := by decide +kernel
theorem dX7_add_38 : decode cX7_add 38 = .ok (.return_, 1) := by decide +kernel
theorem dX7_allHave_0 : decode cX7_allHave 0 = .ok (.iload_n 1, 1) := by decide +kernel
theorem dX7_allHave_1 : decode cX7_allHave 1 = .ok (.iconst 1, 1) := by decide +kernel
theorem dX7_allHave_2 : decode cX7_allHave 2 = .ok (.if_icmp .lt 9, 3) := by decide +kernel
theorem dX7_allHave_5 : decode cX7_allHave 5 = .ok (.iload_n 1, 1) := by decide +kernel
theorem dX7_allHave_6 : decode cX7_allHave 6 = .ok (.bipush 6, 2) := by decide +kernel
theorem dX7_allHave_8 : decode cX7_allHave 8 = .ok (.if_icmp .le 5, 3) := by decide +kernel
theorem dX7_allHave_11 : decode cX7_allHave 11 = .ok (.iconst 0, 1) := by decide +kernel
theorem dX7_allHave_12 : decode cX7_allHave 12 = .ok (.ireturn, 1) := by decide +kernel
theorem dX7_allHave_13 : decode cX7_allHave 13 = .ok (.iconst 0, 1) := by decide +kernel
theorem dX7_allHave_14 : decode cX7_allHave 14 = .ok (.istore_n 2, 1) := by decide +kernel
theorem dX7_allHave_15 : decode cX7_allHave 15 = .ok (.iload_n 2, 1) := by decide +kernel
theorem dX7_allHave_16 : decode cX7_allHave 16 = .ok (.aload_n 0, 1) := by decide +kernel
theorem dX7_allHave_17 : decode cX7_allHave 17 = .ok (.getfield 9, 3) := by decide +kernel
theorem dX7_allHave_20 : decode cX7_allHave 20 = .ok (.if_icmp .ge 21, 3) := by decide +kernel
theorem dX7_allHave_23 : decode cX7_allHave 23 = .ok (.aload_n 0, 1) := by decide +kernel
theorem dX7_allHave_24 : decode cX7_allHave 24 = .ok (.getfield 19, 3) := by decide +kernel
theorem dX7_allHave_27 : decode cX7_allHave 27 = .ok (.iload_n 2, 1) := by decide +kernel
theorem dX7_allHave_28 : decode cX7_allHave 28 = .ok (.iaload, 1) := by decide +kernel
theorem dX7_allHave_29 : decode cX7_allHave 29 = .ok (.iload_n 1, 1) := by decide +kernel
theorem dX7_allHave_30 : decode cX7_allHave 30 = .ok (.if_icmp .ge 5, 3) := by decide +kernel
theorem dX7_allHave_33 : decode cX7_allHave 33 = .ok (.iconst 0, 1) := by decide +kernel
theorem dX7_allHave_34 : decode cX7_allHave 34 = .ok (.ireturn, 1) := by decide +kernel
theorem dX7_allHave_35 : decode cX7_allHave 35 = .ok (.iinc 2 1, 3) := by decide +kernel
theorem dX7_allHave_38 : decode cX7_allHave 38 = .ok (.goto (-23), 3) := by decide +kernel
theorem dX7_allHave_41 : decode cX7_allHave 41 = .ok (.aload_n 0, 1) := by decide +kernel
theorem dX7_allHave_42 : decode cX7_allHave 42 = .ok (.getfield 9, 3) := by decide +kernel
theorem dX7_allHave_45 : decode cX7_allHave 45 = .ok (.ifCond .le 7, 3) := by decide +kernel
theorem dX7_allHave_48 : decode cX7_allHave 48 = .ok (.iconst 1, 1) := by decide +kernel
theorem dX7_allHave_49 : decode cX7_allHave 49 = .ok (.goto 4, 3) := by decide +kernel
theorem dX7_allHave_52 : decode cX7_allHave 52 = .ok (.iconst 0, 1) := by decide +kernel
theorem dX7_allHave_53 : decode cX7_allHave 53 = .ok (.ireturn, 1) := by decide +kernel
theorem dX7_piecesOf_0 : decode cX7_piecesOf 0 = .ok (.aload_n 0, 1) := by decide +kernel
theorem dX7_piecesOf_1 : decode cX7_piecesOf 1 = .ok (.getfield 19, 3) := by decide +kernel
theorem dX7_piecesOf_4 : decode cX7_piecesOf 4 = .ok (.iload_n 1, 1) := by decide +kernel
theorem dX7_piecesOf_5 : decode cX7_piecesOf 5 = .ok (.iaload, 1) := by decide +kernel
theorem dX7_piecesOf_6 : decode cX7_piecesOf 6 = .ok (.iload_n 2, 1) := by decide +kernel
theorem dX7_piecesOf_7 : decode cX7_piecesOf 7 = .ok (.isub, 1) := by decide +kernel
theorem dX7_piecesOf_8 : decode cX7_piecesOf 8 = .ok (.iconst 1, 1) := by decide +kernel
theorem dX7_piecesOf_9 : decode cX7_piecesOf 9 = .ok (.iadd, 1) := by decide +kernel
theorem dX7_piecesOf_10 : decode cX7_piecesOf 10 = .ok (.ireturn, 1) := by decide +kernel
theorem dX8_init_0 : decode cX8_init 0 = .ok (.aload_n 0, 1) := by decide +kernel
theorem dX8_init_1 : decode cX8_init 1 = .ok (.invokespecial 3, 3) := by decide +kernel
theorem dX8_init_4 : decode cX8_init 4 = .ok (.aload_n 0, 1) := by decide +kernel
theorem dX8_init_5 : decode cX8_init 5 = .ok (.iconst 0, 1) := by decide +kernel
theorem dX8_init_6 : decode cX8_init 6 = .ok (.putfield 9, 3) := by decide +kernel
theorem dX8_init_9 : decode cX8_init 9 = .ok (.aload_n 0, 1) := by decide +kernel
theorem dX8_init_10 : decode cX8_init 10 = .ok (.iconst 0, 1) := by decide +kernel
theorem dX8_init_11 : decode cX8_init 11 = .ok (.putfield 15, 3) := by decide +kernel
theorem dX8_init_14 : decode cX8_init 14 = .ok (.aload_n 0, 1) := by decide +kernel
theorem dX8_init_15 : decode cX8_init 15 = .ok (.aload_n 1, 1) := by decide +kernel
theorem dX8_init_16 : decode cX8_init 16 = .ok (.putfield 18, 3) := by decide +kernel
theorem dX8_init_19 : decode cX8_init 19 = .ok (.aload_n 0, 1) := by decide +kernel
theorem dX8_init_20 : decode cX8_init 20 = .ok (.iload_n 3, 1) := by decide +kernel
theorem dX8_init_21 : decode cX8_init 21 = .ok (.putfield 22, 3) := by decide +kernel
theorem dX8_init_24 : decode cX8_init 24 = .ok (.aload_n 0, 1) := by decide +kernel
theorem dX8_init_25 : decode cX8_init 25 = .ok (.iload_n 2, 1) := by decide +kernel
theorem dX8_init_26 : decode cX8_init 26 = .ok (.newarray .int, 2) := by decide +kernel
theorem dX8_init_28 : decode cX8_init 28 = .ok (.putfield 25, 3) := by decide +kernel
theorem dX8_init_31 : decode cX8_init 31 = .ok (.aload_n 0, 1) := by decide +kernel
theorem dX8_init_32 : decode cX8_init 32 = .ok (.iload_n 2, 1) := by decide +kernel
theorem dX8_init_33 : decode cX8_init 33 = .ok (.iconst 1, 1) := by decide +kernel
theorem dX8_init_34 : decode cX8_init 34 = .ok (.iadd, 1) := by decide +kernel
theorem dX8_init_35 : decode cX8_init 35 = .ok (.iload_n 3, 1) := by decide +kernel
theorem dX8_init_36 : decode cX8_init 36 = .ok (.imul, 1) := by decide +kernel
theorem dX8_init_37 : decode cX8_init 37 = .ok (.newarray .int, 2) := by decide +kernel
theorem dX8_init_39 : decode cX8_init 39 = .ok (.putfield 29, 3) := by decide +kernel
theorem dX8_init_42 : decode cX8_init 42 = .ok (.aload_n 0, 1) := by decide +kernel
theorem dX8_init_43 : decode cX8_init 43 = .ok (.iload_n 2, 1) := by decide +kernel
theorem dX8_init_44 : decode cX8_init 44 = .ok (.iload_n 3, 1) := by decide +kernel
theorem dX8_init_45 : decode cX8_init 45 = .ok (.imul, 1) := by decide +kernel
theorem dX8_init_46 : decode cX8_init 46 = .ok (.newarray .int, 2) := by decide +kernel
theorem dX8_init_48 : decode cX8_init 48 = .ok (.putfield 32, 3) := by decide +kernel
theorem dX8_init_51 : decode cX8_init 51 = .ok (.aload_n 0, 1) := by decide +kernel
theorem dX8_init_52 : decode cX8_init 52 = .ok (.iload_n 2, 1) := by decide +kernel
theorem dX8_init_53 : decode cX8_init 53 = .ok (.iconst 1, 1) := by decide +kernel
theorem dX8_init_54 : decode cX8_init 54 = .ok (.iadd, 1) := by decide +kernel
theorem dX8_init_55 : decode cX8_init 55 = .ok (.newarray .int, 2) := by decide +kernel
theorem dX8_init_57 : decode cX8_init 57 = .ok (.putfield 35, 3) := by decide +kernel
theorem dX8_init_60 : decode cX8_init 60 = .ok (.aload_n 0, 1) := by decide +kernel
theorem dX8_init_61 : decode cX8_init 61 = .ok (.iload_n 2, 1) := by decide +kernel
theorem dX8_init_62 : decode cX8_init 62 = .ok (.iconst 1, 1) := by decide +kernel
theorem dX8_init_63 : decode cX8_init 63 = .ok (.iadd, 1) := by decide +kernel
theorem dX8_init_64 : decode cX8_init 64 = .ok (.newarray .int, 2) := by decide +kernel
