theorem dX2_forget_22 : decode cX2_forget 22 = .ok (.return_, 1) := by decide +kernel
theorem dX2_refresh_0 : decode cX2_refresh 0 = .ok (.aload_n 0, 1) := by decide +kernel
theorem dX2_refresh_1 : decode cX2_refresh 1 = .ok (.getfield 9, 3) := by decide +kernel
theorem dX2_refresh_4 : decode cX2_refresh 4 = .ok (.iload_n 1, 1) := by decide +kernel
theorem dX2_refresh_5 : decode cX2_refresh 5 = .ok (.iaload, 1) := by decide +kernel
theorem dX2_refresh_6 : decode cX2_refresh 6 = .ok (.bipush (-2), 2) := by decide +kernel
theorem dX2_refresh_8 : decode cX2_refresh 8 = .ok (.if_icmp .eq 4, 3) := by decide +kernel
theorem dX2_refresh_11 : decode cX2_refresh 11 = .ok (.return_, 1) := by decide +kernel
theorem dX2_refresh_12 : decode cX2_refresh 12 = .ok (.aload_n 0, 1) := by decide +kernel
theorem dX2_refresh_13 : decode cX2_refresh 13 = .ok (.getfield 9, 3) := by decide +kernel
theorem dX2_refresh_16 : decode cX2_refresh 16 = .ok (.iload_n 1, 1) := by decide +kernel
theorem dX2_refresh_17 : decode cX2_refresh 17 = .ok (.ldc 41, 2) := by decide +kernel
theorem dX2_refresh_19 : decode cX2_refresh 19 = .ok (.iastore, 1) := by decide +kernel
theorem dX2_refresh_20 : decode cX2_refresh 20 = .ok (.aload_n 0, 1) := by decide +kernel
theorem dX2_refresh_21 : decode cX2_refresh 21 = .ok (.getfield 34, 3) := by decide +kernel
theorem dX2_refresh_24 : decode cX2_refresh 24 = .ok (.iload_n 1, 1) := by decide +kernel
theorem dX2_refresh_25 : decode cX2_refresh 25 = .ok (.invokevirtual 42, 3) := by decide +kernel
theorem dX2_refresh_28 : decode cX2_refresh 28 = .ok (.iconst 0, 1) := by decide +kernel
theorem dX2_refresh_29 : decode cX2_refresh 29 = .ok (.istore_n 2, 1) := by decide +kernel
theorem dX2_refresh_30 : decode cX2_refresh 30 = .ok (.iload_n 2, 1) := by decide +kernel
theorem dX2_refresh_31 : decode cX2_refresh 31 = .ok (.aload_n 0, 1) := by decide +kernel
theorem dX2_refresh_32 : decode cX2_refresh 32 = .ok (.getfield 25, 3) := by decide +kernel
theorem dX2_refresh_35 : decode cX2_refresh 35 = .ok (.getfield 46, 3) := by decide +kernel
theorem dX2_refresh_38 : decode cX2_refresh 38 = .ok (.if_icmp .ge 54, 3) := by decide +kernel
theorem dX2_refresh_41 : decode cX2_refresh 41 = .ok (.iconst 0, 1) := by decide +kernel
theorem dX2_refresh_42 : decode cX2_refresh 42 = .ok (.istore_n 3, 1) := by decide +kernel
theorem dX2_refresh_43 : decode cX2_refresh 43 = .ok (.iload_n 3, 1) := by decide +kernel
theorem dX2_refresh_44 : decode cX2_refresh 44 = .ok (.aload_n 0, 1) := by decide +kernel
theorem dX2_refresh_45 : decode cX2_refresh 45 = .ok (.getfield 25, 3) := by decide +kernel
theorem dX2_refresh_48 : decode cX2_refresh 48 = .ok (.iload_n 2, 1) := by decide +kernel
theorem dX2_refresh_49 : decode cX2_refresh 49 = .ok (.iload_n 1, 1) := by decide +kernel
theorem dX2_refresh_50 : decode cX2_refresh 50 = .ok (.invokevirtual 52, 3) := by decide +kernel
theorem dX2_refresh_53 : decode cX2_refresh 53 = .ok (.if_icmp .ge 33, 3) := by decide +kernel
theorem dX2_refresh_56 : decode cX2_refresh 56 = .ok (.aload_n 0, 1) := by decide +kernel
theorem dX2_refresh_57 : decode cX2_refresh 57 = .ok (.getfield 34, 3) := by decide +kernel
theorem dX2_refresh_60 : decode cX2_refresh 60 = .ok (.aload_n 0, 1) := by decide +kernel
theorem dX2_refresh_61 : decode cX2_refresh 61 = .ok (.getfield 25, 3) := by decide +kernel
theorem dX2_refresh_64 : decode cX2_refresh 64 = .ok (.getfield 56, 3) := by decide +kernel
theorem dX2_refresh_67 : decode cX2_refresh 67 = .ok (.aload_n 0, 1) := by decide +kernel
theorem dX2_refresh_68 : decode cX2_refresh 68 = .ok (.getfield 25, 3) := by decide +kernel
theorem dX2_refresh_71 : decode cX2_refresh 71 = .ok (.iload_n 2, 1) := by decide +kernel
theorem dX2_refresh_72 : decode cX2_refresh 72 = .ok (.invokevirtual 59, 3) := by decide +kernel
theorem dX2_refresh_75 : decode cX2_refresh 75 = .ok (.iload_n 3, 1) := by decide +kernel
theorem dX2_refresh_76 : decode cX2_refresh 76 = .ok (.iadd, 1) := by decide +kernel
theorem dX2_refresh_77 : decode cX2_refresh 77 = .ok (.invokevirtual 63, 3) := by decide +kernel
theorem dX2_refresh_80 : decode cX2_refresh 80 = .ok (.iinc 3 1, 3) := by decide +kernel
theorem dX2_refresh_83 : decode cX2_refresh 83 = .ok (.goto (-40), 3) := by decide +kernel
theorem dX2_refresh_86 : decode cX2_refresh 86 = .ok (.iinc 2 1, 3) := by decide +kernel
theorem dX2_refresh_89 : decode cX2_refresh 89 = .ok (.goto (-59), 3) := by decide +kernel
theorem dX2_refresh_92 : decode cX2_refresh 92 = .ok (.iconst 0, 1) := by decide +kernel
theorem dX2_refresh_93 : decode cX2_refresh 93 = .ok (.istore_n 2, 1) := by decide +kernel
theorem dX2_refresh_94 : decode cX2_refresh 94 = .ok (.aload_n 0, 1) := by decide +kernel
theorem dX2_refresh_95 : decode cX2_refresh 95 = .ok (.getfield 21, 3) := by decide +kernel
theorem dX2_refresh_98 : decode cX2_refresh 98 = .ok (.iload_n 1, 1) := by decide +kernel
theorem dX2_refresh_99 : decode cX2_refresh 99 = .ok (.invokevirtual 67, 3) := by decide +kernel
theorem dX2_refresh_102 : decode cX2_refresh 102 = .ok (.istore_n 3, 1) := by decide +kernel
theorem dX2_refresh_103 : decode cX2_refresh 103 = .ok (.iload_n 3, 1) := by decide +kernel
theorem dX2_refresh_104 : decode cX2_refresh 104 = .ok (.ifCond .le 27, 3) := by decide +kernel
theorem dX2_refresh_107 : decode cX2_refresh 107 = .ok (.iload_n 2, 1) := by decide +kernel
theorem dX2_refresh_108 : decode cX2_refresh 108 = .ok (.ifCond .lt 23, 3) := by decide +kernel
theorem dX2_refresh_111 : decode cX2_refresh 111 = .ok (.aload_n 0, 1) := by decide +kernel
theorem dX2_refresh_112 : decode cX2_refresh 112 = .ok (.getfield 34, 3) := by decide +kernel
theorem dX2_refresh_115 : decode cX2_refresh 115 = .ok (.aload_n 0, 1) := by decide +kernel
theorem dX2_refresh_116 : decode cX2_refresh 116 = .ok (.iload_n 2, 1) := by decide +kernel
theorem dX2_refresh_117 : decode cX2_refresh 117 = .ok (.iload_n 1, 1) := by decide +kernel
theorem dX2_refresh_118 : decode cX2_refresh 118 = .ok (.invokevirtual 72, 3) := by decide +kernel
theorem dX2_refresh_121 : decode cX2_refresh 121 = .ok (.invokevirtual 75, 3) := by decide +kernel
theorem dX2_refresh_124 : decode cX2_refresh 124 = .ok (.istore_n 2, 1) := by decide +kernel
theorem dX2_refresh_125 : decode cX2_refresh 125 = .ok (.iinc 3 (-1), 3) := by decide +kernel
theorem dX2_refresh_128 : decode cX2_refresh 128 = .ok (.goto (-25), 3) := by decide +kernel
theorem dX2_refresh_131 : decode cX2_refresh 131 = .ok (.return_, 1) := by decide +kernel
theorem dX2_descend_0 : decode cX2_descend 0 = .ok (.iload_n 1, 1) := by decide +kernel
theorem dX2_descend_1 : decode cX2_descend 1 = .ok (.istore_n 3, 1) := by decide +kernel
theorem dX2_descend_2 : decode cX2_descend 2 = .ok (.iload_n 3, 1) := by decide +kernel
theorem dX2_descend_3 : decode cX2_descend 3 = .ok (.iload_n 2, 1) := by decide +kernel
theorem dX2_descend_4 : decode cX2_descend 4 = .ok (.if_icmp .ge 66, 3) := by decide +kernel
theorem dX2_descend_7 : decode cX2_descend 7 = .ok (.aload_n 0, 1) := by decide +kernel
theorem dX2_descend_8 : decode cX2_descend 8 = .ok (.getfield 34, 3) := by decide +kernel
theorem dX2_descend_11 : decode cX2_descend 11 = .ok (.iload_n 3, 1) := by decide +kernel
theorem dX2_descend_12 : decode cX2_descend 12 = .ok (.invokevirtual 78, 3) := by decide +kernel
theorem dX2_descend_15 : decode cX2_descend 15 = .ok (.aload_n 0, 1) := by decide +kernel
theorem dX2_descend_16 : decode cX2_descend 16 = .ok (.iload_n 3, 1) := by decide +kernel
theorem dX2_descend_17 : decode cX2_descend 17 = .ok (.iload_n 2, 1) := by decide +kernel
theorem dX2_descend_18 : decode cX2_descend 18 = .ok (.invokevirtual 81, 3) := by decide +kernel
theorem dX2_descend_21 : decode cX2_descend 21 = .ok (.istore 4, 2) := by decide +kernel
theorem dX2_descend_23 : decode cX2_descend 23 = .ok (.iload 4, 2) := by decide +kernel
theorem dX2_descend_25 : decode cX2_descend 25 = .ok (.aload_n 0, 1) := by decide +kernel
theorem dX2_descend_26 : decode cX2_descend 26 = .ok (.getfield 9, 3) := by decide +kernel
theorem dX2_descend_29 : decode cX2_descend 29 = .ok (.iload_n 2, 1) := by decide +kernel
theorem dX2_descend_30 : decode cX2_descend 30 = .ok (.iaload, 1) := by decide +kernel
theorem dX2_descend_31 : decode cX2_descend 31 = .ok (.if_icmp .lt 5, 3) := by decide +kernel
theorem dX2_descend_34 : decode cX2_descend 34 = .ok (.iload_n 3, 1) := by decide +kernel
theorem dX2_descend_35 : decode cX2_descend 35 = .ok (.ireturn, 1) := by decide +kernel
theorem dX2_descend_36 : decode cX2_descend 36 = .ok (.iload_n 3, 1) := by decide +kernel
theorem dX2_descend_37 : decode cX2_descend 37 = .ok (.iload_n 2, 1) := by decide +kernel
theorem dX2_descend_38 : decode cX2_descend 38 = .ok (.iconst 1, 1) := by decide +kernel
theorem dX2_descend_39 : decode cX2_descend 39 = .ok (.isub, 1) := by decide +kernel
theorem dX2_descend_40 : decode cX2_descend 40 = .ok (.if_icmp .ne 24, 3) := by decide +kernel
theorem dX2_descend_43 : decode cX2_descend 43 = .ok (.aload_n 0, 1) := by decide +kernel
theorem dX2_descend_44 : decode cX2_descend 44 = .ok (.getfield 9, 3) := by decide +kernel
theorem dX2_descend_47 : decode cX2_descend 47 = .ok (.iload_n 2, 1) := by decide +kernel
theorem dX2_descend_48 : decode cX2_descend 48 = .ok (.iload 4, 2) := by decide +kernel
theorem dX2_descend_50 : decode cX2_descend 50 = .ok (.iastore, 1) := by decide +kernel
theorem dX2_descend_51 : decode cX2_descend 51 = .ok (.aload_n 0, 1) := by decide +kernel
theorem dX2_descend_52 : decode cX2_descend 52 = .ok (.getfield 15, 3) := by decide +kernel
theorem dX2_descend_55 : decode cX2_descend 55 = .ok (.iload_n 2, 1) := by decide +kernel
theorem dX2_descend_56 : decode cX2_descend 56 = .ok (.aload_n 0, 1) := by decide +kernel
theorem dX2_descend_57 : decode cX2_descend 57 = .ok (.getfield 34, 3) := by decide +kernel
theorem dX2_descend_60 : decode cX2_descend 60 = .ok (.invokevirtual 84, 3) := by decide +kernel
theorem dX2_descend_63 : decode cX2_descend 63 = .ok (.iastore, 1) := by decide +kernel
theorem dX2_descend_64 : decode cX2_descend 64 = .ok (.iinc 3 1, 3) := by decide +kernel
theorem dX2_descend_67 : decode cX2_descend 67 = .ok (.goto (-65), 3) := by decide +kernel
theorem dX2_descend_70 : decode cX2_descend 70 = .ok (.iload_n 2, 1) := by decide +kernel
theorem dX2_descend_71 : decode cX2_descend 71 = .ok (.iconst 1, 1) := by decide +kernel
theorem dX2_descend_72 : decode cX2_descend 72 = .ok (.isub, 1) := by decide +kernel
theorem dX2_descend_73 : decode cX2_descend 73 = .ok (.ireturn, 1) := by decide +kernel
theorem dX2_leastReach_0 : decode cX2_leastReach 0 = .ok (.iconst 0, 1) := by decide +kernel
theorem dX2_leastReach_1 : decode cX2_leastReach 1 = .ok (.istore_n 3, 1) := by decide +kernel
theorem dX2_leastReach_2 : decode cX2_leastReach 2 = .ok (.iconst 0, 1) := by decide +kernel
theorem dX2_leastReach_3 : decode cX2_leastReach 3 = .ok (.istore 4, 2) := by decide +kernel
theorem dX2_leastReach_5 : decode cX2_leastReach 5 = .ok (.iconst 0, 1) := by decide +kernel
theorem dX2_leastReach_6 : decode cX2_leastReach 6 = .ok (.istore 5, 2) := by decide +kernel
theorem dX2_leastReach_8 : decode cX2_leastReach 8 = .ok (.iload 5, 2) := by decide +kernel
theorem dX2_leastReach_10 : decode cX2_leastReach 10 = .ok (.aload_n 0, 1) := by decide +kernel
theorem dX2_leastReach_11 : decode cX2_leastReach 11 = .ok (.getfield 25, 3) := by decide +kernel
theorem dX2_leastReach_14 : decode cX2_leastReach 14 = .ok (.getfield 46, 3) := by decide +kernel
theorem dX2_leastReach_17 : decode cX2_leastReach 17 = .ok (.if_icmp .ge 42, 3) := by decide +kernel
theorem dX2_leastReach_20 : decode cX2_leastReach 20 = .ok (.iload 4, 2) := by decide +kernel
theorem dX2_leastReach_22 : decode cX2_leastReach 22 = .ok (.aload_n 0, 1) := by decide +kernel
theorem dX2_leastReach_23 : decode cX2_leastReach 23 = .ok (.getfield 25, 3) := by decide +kernel
theorem dX2_leastReach_26 : decode cX2_leastReach 26 = .ok (.iload 5, 2) := by decide +kernel
theorem dX2_leastReach_28 : decode cX2_leastReach 28 = .ok (.iload_n 2, 1) := by decide +kernel
theorem dX2_leastReach_29 : decode cX2_leastReach 29 = .ok (.invokevirtual 52, 3) := by decide +kernel
theorem dX2_leastReach_32 : decode cX2_leastReach 32 = .ok (.iadd, 1) := by decide +kernel
theorem dX2_leastReach_33 : decode cX2_leastReach 33 = .ok (.istore 6, 2) := by decide +kernel
theorem dX2_leastReach_35 : decode cX2_leastReach 35 = .ok (.iload_n 3, 1) := by decide +kernel
theorem dX2_leastReach_36 : decode cX2_leastReach 36 = .ok (.aload_n 0, 1) := by decide +kernel
theorem dX2_leastReach_37 : decode cX2_leastReach 37 = .ok (.iload_n 1, 1) := by decide +kernel
theorem dX2_leastReach_38 : decode cX2_leastReach 38 = .ok (.iload 4, 2) := by decide +kernel
theorem dX2_leastReach_40 : decode cX2_leastReach 40 = .ok (.iload 6, 2) := by decide +kernel
theorem dX2_leastReach_42 : decode cX2_leastReach 42 = .ok (.invokevirtual 88, 3) := by decide +kernel
theorem dX2_leastReach_45 : decode cX2_leastReach 45 = .ok (.invokestatic 92, 3) := by decide +kernel
theorem dX2_leastReach_48 : decode cX2_leastReach 48 = .ok (.istore_n 3, 1) := by decide +kernel
theorem dX2_leastReach_49 : decode cX2_leastReach 49 = .ok (.iload 6, 2) := by decide +kernel
theorem dX2_leastReach_51 : decode cX2_leastReach 51 = .ok (.istore 4, 2) := by decide +kernel
theorem dX2_leastReach_53 : decode cX2_leastReach 53 = .ok (.iinc 5 1, 3) := by decide +kernel
theorem dX2_leastReach_56 : decode cX2_leastReach 56 = .ok (.goto (-48), 3) := by decide +kernel
theorem dX2_leastReach_59 : decode cX2_leastReach 59 = .ok (.iload_n 3, 1) := by decide +kernel
theorem dX2_leastReach_60 : decode cX2_leastReach 60 = .ok (.ireturn, 1) := by decide +kernel
theorem dX2_leastSum_0 : decode cX2_leastSum 0 = .ok (.iload_n 1, 1) := by decide +kernel
theorem dX2_leastSum_1 : decode cX2_leastSum 1 = .ok (.aload_n 0, 1) := by decide +kernel
theorem dX2_leastSum_2 : decode cX2_leastSum 2 = .ok (.getfield 34, 3) := by decide +kernel
theorem dX2_leastSum_5 : decode cX2_leastSum 5 = .ok (.getfield 97, 3) := by decide +kernel
theorem dX2_leastSum_8 : decode cX2_leastSum 8 = .ok (.imul, 1) := by decide +kernel
theorem dX2_leastSum_9 : decode cX2_leastSum 9 = .ok (.istore 4, 2) := by decide +kernel
theorem dX2_leastSum_11 : decode cX2_leastSum 11 = .ok (.aload_n 0, 1) := by decide +kernel
theorem dX2_leastSum_12 : decode cX2_leastSum 12 = .ok (.getfield 21, 3) := by decide +kernel
theorem dX2_leastSum_15 : decode cX2_leastSum 15 = .ok (.getfield 100, 3) := by decide +kernel
theorem dX2_leastSum_18 : decode cX2_leastSum 18 = .ok (.ifCond .le 20, 3) := by decide +kernel
theorem dX2_leastSum_21 : decode cX2_leastSum 21 = .ok (.iload_n 1, 1) := by decide +kernel
theorem dX2_leastSum_22 : decode cX2_leastSum 22 = .ok (.aload_n 0, 1) := by decide +kernel
theorem dX2_leastSum_23 : decode cX2_leastSum 23 = .ok (.getfield 34, 3) := by decide +kernel
theorem dX2_leastSum_26 : decode cX2_leastSum 26 = .ok (.getfield 103, 3) := by decide +kernel
theorem dX2_leastSum_29 : decode cX2_leastSum 29 = .ok (.iconst 1, 1) := by decide +kernel
theorem dX2_leastSum_30 : decode cX2_leastSum 30 = .ok (.isub, 1) := by decide +kernel
theorem dX2_leastSum_31 : decode cX2_leastSum 31 = .ok (.if_icmp .ge 7, 3) := by decide +kernel
theorem dX2_leastSum_34 : decode cX2_leastSum 34 = .ok (.iconst 1, 1) := by decide +kernel
theorem dX2_leastSum_35 : decode cX2_leastSum 35 = .ok (.goto 4, 3) := by decide +kernel
theorem dX2_leastSum_38 : decode cX2_leastSum 38 = .ok (.iconst 0, 1) := by decide +kernel
theorem dX2_leastSum_39 : decode cX2_leastSum 39 = .ok (.istore 5, 2) := by decide +kernel
theorem dX2_leastSum_41 : decode cX2_leastSum 41 = .ok (.ldc 41, 2) := by decide +kernel
theorem dX2_leastSum_43 : decode cX2_leastSum 43 = .ok (.istore 6, 2) := by decide +kernel
theorem dX2_leastSum_45 : decode cX2_leastSum 45 = .ok (.iload_n 2, 1) := by decide +kernel
theorem dX2_leastSum_46 : decode cX2_leastSum 46 = .ok (.istore 7, 2) := by decide +kernel
theorem dX2_leastSum_48 : decode cX2_leastSum 48 = .ok (.iload 7, 2) := by decide +kernel
theorem dX2_leastSum_50 : decode cX2_leastSum 50 = .ok (.iload_n 3, 1) := by decide +kernel
theorem dX2_leastSum_51 : decode cX2_leastSum 51 = .ok (.if_icmp .ge 97, 3) := by decide +kernel
theorem dX2_leastSum_54 : decode cX2_leastSum 54 = .ok (.aload_n 0, 1) := by decide +kernel
theorem dX2_leastSum_55 : decode cX2_leastSum 55 = .ok (.getfield 34, 3) := by decide +kernel
theorem dX2_leastSum_58 : decode cX2_leastSum 58 = .ok (.getfield 106, 3) := by decide +kernel
theorem dX2_leastSum_61 : decode cX2_leastSum 61 = .ok (.iload 4, 2) := by decide +kernel
theorem dX2_leastSum_63 : decode cX2_leastSum 63 = .ok (.aload_n 0, 1) := by decide +kernel
theorem dX2_leastSum_64 : decode cX2_leastSum 64 = .ok (.getfield 34, 3) := by decide +kernel
theorem dX2_leastSum_67 : decode cX2_leastSum 67 = .ok (.getfield 97, 3) := by decide +kernel
theorem dX2_leastSum_70 : decode cX2_leastSum 70 = .ok (.iadd, 1) := by decide +kernel
theorem dX2_leastSum_71 : decode cX2_leastSum 71 = .ok (.iload 7, 2) := by decide +kernel
theorem dX2_leastSum_73 : decode cX2_leastSum 73 = .ok (.iadd, 1) := by decide +kernel
theorem dX2_leastSum_74 : decode cX2_leastSum 74 = .ok (.iaload, 1) := by decide +kernel
theorem dX2_leastSum_75 : decode cX2_leastSum 75 = .ok (.istore 8, 2) := by decide +kernel
theorem dX2_leastSum_77 : decode cX2_leastSum 77 = .ok (.iload 5, 2) := by decide +kernel
theorem dX2_leastSum_79 : decode cX2_leastSum 79 = .ok (.ifCond .eq 52, 3) := by decide +kernel
theorem dX2_leastSum_82 : decode cX2_leastSum 82 = .ok (.aload_n 0, 1) := by decide +kernel
theorem dX2_leastSum_83 : decode cX2_leastSum 83 = .ok (.getfield 34, 3) := by decide +kernel
theorem dX2_leastSum_86 : decode cX2_leastSum 86 = .ok (.getfield 106, 3) := by decide +kernel
theorem dX2_leastSum_89 : decode cX2_leastSum 89 = .ok (.iload 4, 2) := by decide +kernel
theorem dX2_leastSum_91 : decode cX2_leastSum 91 = .ok (.iload 7, 2) := by decide +kernel
theorem dX2_leastSum_93 : decode cX2_leastSum 93 = .ok (.iadd, 1) := by decide +kernel
theorem dX2_leastSum_94 : decode cX2_leastSum 94 = .ok (.iaload, 1) := by decide +kernel
theorem dX2_leastSum_95 : decode cX2_leastSum 95 = .ok (.aload_n 0, 1) := by decide +kernel
theorem dX2_leastSum_96 : decode cX2_leastSum 96 = .ok (.getfield 21, 3) := by decide +kernel
theorem dX2_leastSum_99 : decode cX2_leastSum 99 = .ok (.getfield 100, 3) := by decide +kernel
theorem dX2_leastSum_102 : decode cX2_leastSum 102 = .ok (.iadd, 1) := by decide +kernel
theorem dX2_leastSum_103 : decode cX2_leastSum 103 = .ok (.iload 8, 2) := by decide +kernel
theorem dX2_leastSum_105 : decode cX2_leastSum 105 = .ok (.if_icmp .ge 26, 3) := by decide +kernel
theorem dX2_leastSum_108 : decode cX2_leastSum 108 = .ok (.aload_n 0, 1) := by decide +kernel
theorem dX2_leastSum_109 : decode cX2_leastSum 109 = .ok (.getfield 34, 3) := by decide +kernel
theorem dX2_leastSum_112 : decode cX2_leastSum 112 = .ok (.getfield 106, 3) := by decide +kernel
theorem dX2_leastSum_115 : decode cX2_leastSum 115 = .ok (.iload 4, 2) := by decide +kernel
theorem dX2_leastSum_117 : decode cX2_leastSum 117 = .ok (.iload 7, 2) := by decide +kernel
theorem dX2_leastSum_119 : decode cX2_leastSum 119 = .ok (.iadd, 1) := by decide +kernel
theorem dX2_leastSum_120 : decode cX2_leastSum 120 = .ok (.iaload, 1) := by decide +kernel
theorem dX2_leastSum_121 : decode cX2_leastSum 121 = .ok (.aload_n 0, 1) := by decide +kernel
theorem dX2_leastSum_122 : decode cX2_leastSum 122 = .ok (.getfield 21, 3) := by decide +kernel
theorem dX2_leastSum_125 : decode cX2_leastSum 125 = .ok (.getfield 100, 3) := by decide +kernel
theorem dX2_leastSum_128 : decode cX2_leastSum 128 = .ok (.iadd, 1) := by decide +kernel
theorem dX2_leastSum_129 : decode cX2_leastSum 129 = .ok (.istore 8, 2) := by decide +kernel
theorem dX2_leastSum_131 : decode cX2_leastSum 131 = .ok (.iload 8, 2) := by decide +kernel
theorem dX2_leastSum_133 : decode cX2_leastSum 133 = .ok (.iload 6, 2) := by decide +kernel
theorem dX2_leastSum_135 : decode cX2_leastSum 135 = .ok (.if_icmp .ge 7, 3) := by decide +kernel
theorem dX2_leastSum_138 : decode cX2_leastSum 138 = .ok (.iload 8, 2) := by decide +kernel
theorem dX2_leastSum_140 : decode cX2_leastSum 140 = .ok (.istore 6, 2) := by decide +kernel
theorem dX2_leastSum_142 : decode cX2_leastSum 142 = .ok (.iinc 7 1, 3) := by decide +kernel
theorem dX2_leastSum_145 : decode cX2_leastSum 145 = .ok (.goto (-97), 3) := by decide +kernel
theorem dX2_leastSum_148 : decode cX2_leastSum 148 = .ok (.iload 6, 2) := by decide +kernel
theorem dX2_leastSum_150 : decode cX2_leastSum 150 = .ok (.ireturn, 1) := by decide +kernel
theorem dX2_nearestPiece_0 : decode cX2_nearestPiece 0 = .ok (.iconst 0, 1) := by decide +kernel
theorem dX2_nearestPiece_1 : decode cX2_nearestPiece 1 = .ok (.istore_n 3, 1) := by decide +kernel
theorem dX2_nearestPiece_2 : decode cX2_nearestPiece 2 = .ok (.iload_n 3, 1) := by decide +kernel
theorem dX2_nearestPiece_3 : decode cX2_nearestPiece 3 = .ok (.iload_n 1, 1) := by decide +kernel
theorem dX2_nearestPiece_4 : decode cX2_nearestPiece 4 = .ok (.if_icmp .ge 26, 3) := by decide +kernel
theorem dX2_nearestPiece_7 : decode cX2_nearestPiece 7 = .ok (.aload_n 0, 1) := by decide +kernel
theorem dX2_nearestPiece_8 : decode cX2_nearestPiece 8 = .ok (.getfield 18, 3) := by decide +kernel
theorem dX2_nearestPiece_11 : decode cX2_nearestPiece 11 = .ok (.iload_n 3, 1) := by decide +kernel
theorem dX2_nearestPiece_12 : decode cX2_nearestPiece 12 = .ok (.aload_n 0, 1) := by decide +kernel
theorem dX2_nearestPiece_13 : decode cX2_nearestPiece 13 = .ok (.getfield 15, 3) := by decide +kernel
theorem dX2_nearestPiece_16 : decode cX2_nearestPiece 16 = .ok (.iload_n 1, 1) := by decide +kernel
theorem dX2_nearestPiece_17 : decode cX2_nearestPiece 17 = .ok (.iaload, 1) := by decide +kernel
theorem dX2_nearestPiece_18 : decode cX2_nearestPiece 18 = .ok (.iload_n 1, 1) := by decide +kernel
theorem dX2_nearestPiece_19 : decode cX2_nearestPiece 19 = .ok (.iload_n 3, 1) := by decide +kernel
theorem dX2_nearestPiece_20 : decode cX2_nearestPiece 20 = .ok (.invokestatic 109, 3) := by decide +kernel
theorem dX2_nearestPiece_23 : decode cX2_nearestPiece 23 = .ok (.iastore, 1) := by decide +kernel
theorem dX2_nearestPiece_24 : decode cX2_nearestPiece 24 = .ok (.iinc 3 1, 3) := by decide +kernel
theorem dX2_nearestPiece_27 : decode cX2_nearestPiece 27 = .ok (.goto (-25), 3) := by decide +kernel
theorem dX2_nearestPiece_30 : decode cX2_nearestPiece 30 = .ok (.iconst 0, 1) := by decide +kernel
theorem dX2_nearestPiece_31 : decode cX2_nearestPiece 31 = .ok (.istore_n 3, 1) := by decide +kernel
theorem dX2_nearestPiece_32 : decode cX2_nearestPiece 32 = .ok (.ldc 41, 2) := by decide +kernel
theorem dX2_nearestPiece_34 : decode cX2_nearestPiece 34 = .ok (.istore 4, 2) := by decide +kernel
theorem dX2_nearestPiece_36 : decode cX2_nearestPiece 36 = .ok (.iconst 0, 1) := by decide +kernel
theorem dX2_nearestPiece_37 : decode cX2_nearestPiece 37 = .ok (.istore 5, 2) := by decide +kernel
theorem dX2_nearestPiece_39 : decode cX2_nearestPiece 39 = .ok (.iload 5, 2) := by decide +kernel
theorem dX2_nearestPiece_41 : decode cX2_nearestPiece 41 = .ok (.aload_n 0, 1) := by decide +kernel
theorem dX2_nearestPiece_42 : decode cX2_nearestPiece 42 = .ok (.getfield 25, 3) := by decide +kernel
theorem dX2_nearestPiece_45 : decode cX2_nearestPiece 45 = .ok (.iload_n 2, 1) := by decide +kernel
theorem dX2_nearestPiece_46 : decode cX2_nearestPiece 46 = .ok (.iload_n 1, 1) := by decide +kernel
theorem dX2_nearestPiece_47 : decode cX2_nearestPiece 47 = .ok (.invokevirtual 52, 3) := by decide +kernel
theorem dX2_nearestPiece_50 : decode cX2_nearestPiece 50 = .ok (.if_icmp .ge 56, 3) := by decide +kernel
theorem dX2_nearestPiece_53 : decode cX2_nearestPiece 53 = .ok (.aload_n 0, 1) := by decide +kernel
theorem dX2_nearestPiece_54 : decode cX2_nearestPiece 54 = .ok (.getfield 21, 3) := by decide +kernel
theorem dX2_nearestPiece_57 : decode cX2_nearestPiece 57 = .ok (.aload_n 0, 1) := by decide +kernel
theorem dX2_nearestPiece_58 : decode cX2_nearestPiece 58 = .ok (.getfield 18, 3) := by decide +kernel
theorem dX2_nearestPiece_61 : decode cX2_nearestPiece 61 = .ok (.iconst 0, 1) := by decide +kernel
theorem dX2_nearestPiece_62 : decode cX2_nearestPiece 62 = .ok (.aload_n 0, 1) := by decide +kernel
theorem dX2_nearestPiece_63 : decode cX2_nearestPiece 63 = .ok (.getfield 25, 3) := by decide +kernel
theorem dX2_nearestPiece_66 : decode cX2_nearestPiece 66 = .ok (.getfield 56, 3) := by decide +kernel
theorem dX2_nearestPiece_69 : decode cX2_nearestPiece 69 = .ok (.aload_n 0, 1) := by decide +kernel
theorem dX2_nearestPiece_70 : decode cX2_nearestPiece 70 = .ok (.getfield 25, 3) := by decide +kernel
theorem dX2_nearestPiece_73 : decode cX2_nearestPiece 73 = .ok (.iload_n 2, 1) := by decide +kernel
theorem dX2_nearestPiece_74 : decode cX2_nearestPiece 74 = .ok (.invokevirtual 59, 3) := by decide +kernel
theorem dX2_nearestPiece_77 : decode cX2_nearestPiece 77 = .ok (.iload 5, 2) := by decide +kernel
theorem dX2_nearestPiece_79 : decode cX2_nearestPiece 79 = .ok (.iadd, 1) := by decide +kernel
theorem dX2_nearestPiece_80 : decode cX2_nearestPiece 80 = .ok (.iload_n 1, 1) := by decide +kernel
theorem dX2_nearestPiece_81 : decode cX2_nearestPiece 81 = .ok (.invokevirtual 112, 3) := by decide +kernel
theorem dX2_nearestPiece_84 : decode cX2_nearestPiece 84 = .ok (.istore 6, 2) := by decide +kernel
theorem dX2_nearestPiece_86 : decode cX2_nearestPiece 86 = .ok (.iload 6, 2) := by decide +kernel
theorem dX2_nearestPiece_88 : decode cX2_nearestPiece 88 = .ok (.iload 4, 2) := by decide +kernel
theorem dX2_nearestPiece_90 : decode cX2_nearestPiece 90 = .ok (.if_icmp .ge 10, 3) := by decide +kernel
theorem dX2_nearestPiece_93 : decode cX2_nearestPiece 93 = .ok (.iload 6, 2) := by decide +kernel
theorem dX2_nearestPiece_95 : decode cX2_nearestPiece 95 = .ok (.istore 4, 2) := by decide +kernel
theorem dX2_nearestPiece_97 : decode cX2_nearestPiece 97 = .ok (.iload 5, 2) := by decide +kernel
theorem dX2_nearestPiece_99 : decode cX2_nearestPiece 99 = .ok (.istore_n 3, 1) := by decide +kernel
theorem dX2_nearestPiece_100 : decode cX2_nearestPiece 100 = .ok (.iinc 5 1, 3) := by decide +kernel
theorem dX2_nearestPiece_103 : decode cX2_nearestPiece 103 = .ok (.goto (-64), 3) := by decide +kernel
theorem dX2_nearestPiece_106 : decode cX2_nearestPiece 106 = .ok (.iload_n 3, 1) := by decide +kernel
theorem dX2_nearestPiece_107 : decode cX2_nearestPiece 107 = .ok (.ireturn, 1) := by decide +kernel
theorem dX3_init_0 : decode cX3_init 0 = .ok (.aload_n 0, 1) := by decide +kernel
theorem dX3_init_1 : decode cX3_init 1 = .ok (.invokespecial 3, 3) := by decide +kernel
theorem dX3_init_4 : decode cX3_init 4 = .ok (.aload_n 0, 1) := by decide +kernel
theorem dX3_init_5 : decode cX3_init 5 = .ok (.iconst 4, 1) := by decide +kernel
theorem dX3_init_6 : decode cX3_init 6 = .ok (.putfield 9, 3) := by decide +kernel
theorem dX3_init_9 : decode cX3_init 9 = .ok (.aload_n 0, 1) := by decide +kernel
theorem dX3_init_10 : decode cX3_init 10 = .ok (.iconst 0, 1) := by decide +kernel
theorem dX3_init_11 : decode cX3_init 11 = .ok (.putfield 15, 3) := by decide +kernel
theorem dX3_init_14 : decode cX3_init 14 = .ok (.aload_n 0, 1) := by decide +kernel
theorem dX3_init_15 : decode cX3_init 15 = .ok (.iconst 2, 1) := by decide +kernel
theorem dX3_init_16 : decode cX3_init 16 = .ok (.putfield 18, 3) := by decide +kernel
theorem dX3_init_19 : decode cX3_init 19 = .ok (.aload_n 0, 1) := by decide +kernel
theorem dX3_init_20 : decode cX3_init 20 = .ok (.iconst 0, 1) := by decide +kernel
theorem dX3_init_21 : decode cX3_init 21 = .ok (.putfield 21, 3) := by decide +kernel
theorem dX3_init_24 : decode cX3_init 24 = .ok (.aload_n 0, 1) := by decide +kernel
theorem dX3_init_25 : decode cX3_init 25 = .ok (.bipush 16, 2) := by decide +kernel
theorem dX3_init_27 : decode cX3_init 27 = .ok (.newarray .int, 2) := by decide +kernel
theorem dX3_init_29 : decode cX3_init 29 = .ok (.putfield 24, 3) := by decide +kernel
theorem dX3_init_32 : decode cX3_init 32 = .ok (.iconst 0, 1) := by decide +kernel
theorem dX3_init_33 : decode cX3_init 33 = .ok (.istore_n 1, 1) := by decide +kernel
theorem dX3_init_34 : decode cX3_init 34 = .ok (.iload_n 1, 1) := by decide +kernel
theorem dX3_init_35 : decode cX3_init 35 = .ok (.iconst 4, 1) := by decide +kernel
theorem dX3_init_36 : decode cX3_init 36 = .ok (.if_icmp .ge 42, 3) := by decide +kernel
theorem dX3_init_39 : decode cX3_init 39 = .ok (.iconst 0, 1) := by decide +kernel
theorem dX3_init_40 : decode cX3_init 40 = .ok (.istore_n 2, 1) := by decide +kernel
theorem dX3_init_41 : decode cX3_init 41 = .ok (.iload_n 2, 1) := by decide +kernel
theorem dX3_init_42 : decode cX3_init 42 = .ok (.iconst 4, 1) := by decide +kernel
theorem dX3_init_43 : decode cX3_init 43 = .ok (.if_icmp .ge 29, 3) := by decide +kernel
theorem dX3_init_46 : decode cX3_init 46 = .ok (.aload_n 0, 1) := by decide +kernel
theorem dX3_init_47 : decode cX3_init 47 = .ok (.getfield 24, 3) := by decide +kernel
theorem dX3_init_50 : decode cX3_init 50 = .ok (.iload_n 1, 1) := by decide +kernel
theorem dX3_init_51 : decode cX3_init 51 = .ok (.iconst 4, 1) := by decide +kernel
theorem dX3_init_52 : decode cX3_init 52 = .ok (.imul, 1) := by decide +kernel
theorem dX3_init_53 : decode cX3_init 53 = .ok (.iload_n 2, 1) := by decide +kernel
theorem dX3_init_54 : decode cX3_init 54 = .ok (.iadd, 1) := by decide +kernel
theorem dX3_init_55 : decode cX3_init 55 = .ok (.iload_n 1, 1) := by decide +kernel
theorem dX3_init_56 : decode cX3_init 56 = .ok (.iload_n 2, 1) := by decide +kernel
theorem dX3_init_57 : decode cX3_init 57 = .ok (.if_icmp .ne 7, 3) := by decide +kernel
theorem dX3_init_60 : decode cX3_init 60 = .ok (.iconst 0, 1) := by decide +kernel
theorem dX3_init_61 : decode cX3_init 61 = .ok (.goto 4, 3) := by decide +kernel
theorem dX3_init_64 : decode cX3_init 64 = .ok (.iconst 1, 1) := by decide +kernel
theorem dX3_init_65 : decode cX3_init 65 = .ok (.iastore, 1) := by decide +kernel
theorem dX3_init_66 : decode cX3_init 66 = .ok (.iinc 2 1, 3) := by decide +kernel
theorem dX3_init_69 : decode cX3_init 69 = .ok (.goto (-28), 3) := by decide +kernel
theorem dX3_init_72 : decode cX3_init 72 = .ok (.iinc 1 1, 3) := by decide +kernel
theorem dX3_init_75 : decode cX3_init 75 = .ok (.goto (-41), 3) := by decide +kernel
theorem dX3_init_78 : decode cX3_init 78 = .ok (.return_, 1) := by decide +kernel
theorem dX3_setPrice_0 : decode cX3_setPrice 0 = .ok (.aload_n 0, 1) := by decide +kernel
theorem dX3_setPrice_1 : decode cX3_setPrice 1 = .ok (.getfield 24, 3) := by decide +kernel
theorem dX3_setPrice_4 : decode cX3_setPrice 4 = .ok (.iload_n 1, 1) := by decide +kernel
theorem dX3_setPrice_5 : decode cX3_setPrice 5 = .ok (.iconst 4, 1) := by decide +kernel
theorem dX3_setPrice_6 : decode cX3_setPrice 6 = .ok (.imul, 1) := by decide +kernel
theorem dX3_setPrice_7 : decode cX3_setPrice 7 = .ok (.iload_n 2, 1) := by decide +kernel
theorem dX3_setPrice_8 : decode cX3_setPrice 8 = .ok (.iadd, 1) := by decide +kernel
theorem dX3_setPrice_9 : decode cX3_setPrice 9 = .ok (.iload_n 3, 1) := by decide +kernel
theorem dX3_setPrice_10 : decode cX3_setPrice 10 = .ok (.iastore, 1) := by decide +kernel
theorem dX3_setPrice_11 : decode cX3_setPrice 11 = .ok (.aload_n 0, 1) := by decide +kernel
theorem dX3_setPrice_12 : decode cX3_setPrice 12 = .ok (.getfield 24, 3) := by decide +kernel
theorem dX3_setPrice_15 : decode cX3_setPrice 15 = .ok (.iload_n 2, 1) := by decide +kernel
theorem dX3_setPrice_16 : decode cX3_setPrice 16 = .ok (.iconst 4, 1) := by decide +kernel
theorem dX3_setPrice_17 : decode cX3_setPrice 17 = .ok (.imul, 1) := by decide +kernel
theorem dX3_setPrice_18 : decode cX3_setPrice 18 = .ok (.iload_n 1, 1) := by decide +kernel
theorem dX3_setPrice_19 : decode cX3_setPrice 19 = .ok (.iadd, 1) := by decide +kernel
theorem dX3_setPrice_20 : decode cX3_setPrice 20 = .ok (.iload_n 3, 1) := by decide +kernel
theorem dX3_setPrice_21 : decode cX3_setPrice 21 = .ok (.iastore, 1) := by decide +kernel
theorem dX3_setPrice_22 : decode cX3_setPrice 22 = .ok (.return_, 1) := by decide +kernel
theorem dX3_distance_0 : decode cX3_distance 0 = .ok (.iconst 0, 1) := by decide +kernel
theorem dX3_distance_1 : decode cX3_distance 1 = .ok (.istore 6, 2) := by decide +kernel
theorem dX3_distance_3 : decode cX3_distance 3 = .ok (.iconst 0, 1) := by decide +kernel
theorem dX3_distance_4 : decode cX3_distance 4 = .ok (.istore 7, 2) := by decide +kernel
theorem dX3_distance_6 : decode cX3_distance 6 = .ok (.iconst 0, 1) := by decide +kernel
theorem dX3_distance_7 : decode cX3_distance 7 = .ok (.istore 8, 2) := by decide +kernel
theorem dX3_distance_9 : decode cX3_distance 9 = .ok (.iload 8, 2) := by decide +kernel
theorem dX3_distance_11 : decode cX3_distance 11 = .ok (.iload 5, 2) := by decide +kernel
theorem dX3_distance_13 : decode cX3_distance 13 = .ok (.if_icmp .ge 104, 3) := by decide +kernel
theorem dX3_distance_16 : decode cX3_distance 16 = .ok (.aload_n 1, 1) := by decide +kernel
theorem dX3_distance_17 : decode cX3_distance 17 = .ok (.iload_n 2, 1) := by decide +kernel
theorem dX3_distance_18 : decode cX3_distance 18 = .ok (.iload 8, 2) := by decide +kernel
theorem dX3_distance_20 : decode cX3_distance 20 = .ok (.iadd, 1) := by decide +kernel
theorem dX3_distance_21 : decode cX3_distance 21 = .ok (.iaload, 1) := by decide +kernel
theorem dX3_distance_22 : decode cX3_distance 22 = .ok (.istore 9, 2) := by decide +kernel
theorem dX3_distance_24 : decode cX3_distance 24 = .ok (.aload_n 3, 1) := by decide +kernel
theorem dX3_distance_25 : decode cX3_distance 25 = .ok (.iload 4, 2) := by decide +kernel
theorem dX3_distance_27 : decode cX3_distance 27 = .ok (.iload 8, 2) := by decide +kernel
theorem dX3_distance_29 : decode cX3_distance 29 = .ok (.iadd, 1) := by decide +kernel
theorem dX3_distance_30 : decode cX3_distance 30 = .ok (.iaload, 1) := by decide +kernel
theorem dX3_distance_31 : decode cX3_distance 31 = .ok (.istore 10, 2) := by decide +kernel
theorem dX3_distance_33 : decode cX3_distance 33 = .ok (.iload 7, 2) := by decide +kernel
theorem dX3_distance_35 : decode cX3_distance 35 = .ok (.aload_n 0, 1) := by decide +kernel
theorem dX3_distance_36 : decode cX3_distance 36 = .ok (.getfield 24, 3) := by decide +kernel
theorem dX3_distance_39 : decode cX3_distance 39 = .ok (.iload 9, 2) := by decide +kernel
theorem dX3_distance_41 : decode cX3_distance 41 = .ok (.iconst 4, 1) := by decide +kernel
theorem dX3_distance_42 : decode cX3_distance 42 = .ok (.imul, 1) := by decide +kernel
theorem dX3_distance_43 : decode cX3_distance 43 = .ok (.iload 10, 2) := by decide +kernel
theorem dX3_distance_45 : decode cX3_distance 45 = .ok (.iadd, 1) := by decide +kernel
theorem dX3_distance_46 : decode cX3_distance 46 = .ok (.iaload, 1) := by decide +kernel
theorem dX3_distance_47 : decode cX3_distance 47 = .ok (.iadd, 1) := by decide +kernel
theorem dX3_distance_48 : decode cX3_distance 48 = .ok (.istore 11, 2) := by decide +kernel
theorem dX3_distance_50 : decode cX3_distance 50 = .ok (.aload_n 0, 1) := by decide +kernel
theorem dX3_distance_51 : decode cX3_distance 51 = .ok (.getfield 15, 3) := by decide +kernel
theorem dX3_distance_54 : decode cX3_distance 54 = .ok (.ifCond .le 49, 3) := by decide +kernel
theorem dX3_distance_57 : decode cX3_distance 57 = .ok (.iload 8, 2) := by decide +kernel
theorem dX3_distance_59 : decode cX3_distance 59 = .ok (.ifCond .le 44, 3) := by decide +kernel
theorem dX3_distance_62 : decode cX3_distance 62 = .ok (.aload_n 1, 1) := by decide +kernel
theorem dX3_distance_63 : decode cX3_distance 63 = .ok (.iload_n 2, 1) := by decide +kernel
theorem dX3_distance_64 : decode cX3_distance 64 = .ok (.iload 8, 2) := by decide +kernel
theorem dX3_distance_66 : decode cX3_distance 66 = .ok (.iadd, 1) := by decide +kernel
theorem dX3_distance_67 : decode cX3_distance 67 = .ok (.iconst 1, 1) := by decide +kernel
theorem dX3_distance_68 : decode cX3_distance 68 = .ok (.isub, 1) := by decide +kernel
theorem dX3_distance_69 : decode cX3_distance 69 = .ok (.iaload, 1) := by decide +kernel
theorem dX3_distance_70 : decode cX3_distance 70 = .ok (.iload 10, 2) := by decide +kernel
theorem dX3_distance_72 : decode cX3_distance 72 = .ok (.if_icmp .ne 31, 3) := by decide +kernel
theorem dX3_distance_75 : decode cX3_distance 75 = .ok (.aload_n 3, 1) := by decide +kernel
theorem dX3_distance_76 : decode cX3_distance 76 = .ok (.iload 4, 2) := by decide +kernel
theorem dX3_distance_78 : decode cX3_distance 78 = .ok (.iload 8, 2) := by decide +kernel
theorem dX3_distance_80 : decode cX3_distance 80 = .ok (.iadd, 1) := by decide +kernel
theorem dX3_distance_81 : decode cX3_distance 81 = .ok (.iconst 1, 1) := by decide +kernel
theorem dX3_distance_82 : decode cX3_distance 82 = .ok (.isub, 1) := by decide +kernel
theorem dX3_distance_83 : decode cX3_distance 83 = .ok (.iaload, 1) := by decide +kernel
theorem dX3_distance_84 : decode cX3_distance 84 = .ok (.iload 9, 2) := by decide +kernel
theorem dX3_distance_86 : decode cX3_distance 86 = .ok (.if_icmp .ne 17, 3) := by decide +kernel
theorem dX3_distance_89 : decode cX3_distance 89 = .ok (.iload 11, 2) := by decide +kernel
theorem dX3_distance_91 : decode cX3_distance 91 = .ok (.iload 6, 2) := by decide +kernel
theorem dX3_distance_93 : decode cX3_distance 93 = .ok (.aload_n 0, 1) := by decide +kernel
theorem dX3_distance_94 : decode cX3_distance 94 = .ok (.getfield 15, 3) := by decide +kernel
theorem dX3_distance_97 : decode cX3_distance 97 = .ok (.iadd, 1) := by decide +kernel
theorem dX3_distance_98 : decode cX3_distance 98 = .ok (.invokestatic 28, 3) := by decide +kernel
theorem dX3_distance_101 : decode cX3_distance 101 = .ok (.istore 11, 2) := by decide +kernel
theorem dX3_distance_103 : decode cX3_distance 103 = .ok (.iload 7, 2) := by decide +kernel
theorem dX3_distance_105 : decode cX3_distance 105 = .ok (.istore 6, 2) := by decide +kernel
theorem dX3_distance_107 : decode cX3_distance 107 = .ok (.iload 11, 2) := by decide +kernel
theorem dX3_distance_109 : decode cX3_distance 109 = .ok (.istore 7, 2) := by decide +kernel
theorem dX3_distance_111 : decode cX3_distance 111 = .ok (.iinc 8 1, 3) := by decide +kernel
theorem dX3_distance_114 : decode cX3_distance 114 = .ok (.goto (-105), 3) := by decide +kernel
theorem dX3_distance_117 : decode cX3_distance 117 = .ok (.iload 7, 2) := by decide +kernel
theorem dX3_distance_119 : decode cX3_distance 119 = .ok (.ireturn, 1) := by decide +kernel
theorem dX3_rowsOf_0 : decode cX3_rowsOf 0 = .ok (.iconst 1, 1) := by decide +kernel
theorem dX3_rowsOf_1 : decode cX3_rowsOf 1 = .ok (.istore_n 2, 1) := by decide +kernel
theorem dX3_rowsOf_2 : decode cX3_rowsOf 2 = .ok (.iconst 0, 1) := by decide +kernel
theorem dX3_rowsOf_3 : decode cX3_rowsOf 3 = .ok (.istore_n 3, 1) := by decide +kernel
theorem dX3_rowsOf_4 : decode cX3_rowsOf 4 = .ok (.iload_n 3, 1) := by decide +kernel
theorem dX3_rowsOf_5 : decode cX3_rowsOf 5 = .ok (.iload_n 1, 1) := by decide +kernel
theorem dX3_rowsOf_6 : decode cX3_rowsOf 6 = .ok (.if_icmp .ge 16, 3) := by decide +kernel
theorem dX3_rowsOf_9 : decode cX3_rowsOf 9 = .ok (.iload_n 2, 1) := by decide +kernel
theorem dX3_rowsOf_10 : decode cX3_rowsOf 10 = .ok (.aload_n 0, 1) := by decide +kernel
theorem dX3_rowsOf_11 : decode cX3_rowsOf 11 = .ok (.getfield 9, 3) := by decide +kernel
theorem dX3_rowsOf_14 : decode cX3_rowsOf 14 = .ok (.imul, 1) := by decide +kernel
theorem dX3_rowsOf_15 : decode cX3_rowsOf 15 = .ok (.istore_n 2, 1) := by decide +kernel
theorem dX3_rowsOf_16 : decode cX3_rowsOf 16 = .ok (.iinc 3 1, 3) := by decide +kernel
theorem dX3_rowsOf_19 : decode cX3_rowsOf 19 = .ok (.goto (-15), 3) := by decide +kernel
theorem dX3_rowsOf_22 : decode cX3_rowsOf 22 = .ok (.iload_n 2, 1) := by decide +kernel
theorem dX3_rowsOf_23 : decode cX3_rowsOf 23 = .ok (.ireturn, 1) := by decide +kernel
theorem dX3_advance_0 : decode cX3_advance 0 = .ok (.iload_n 2, 1) := by decide +kernel
theorem dX3_advance_1 : decode cX3_advance 1 = .ok (.istore 4, 2) := by decide +kernel
theorem dX3_advance_3 : decode cX3_advance 3 = .ok (.iload 4, 2) := by decide +kernel
theorem dX3_advance_5 : decode cX3_advance 5 = .ok (.ifCond .lt 22, 3) := by decide +kernel
theorem dX3_advance_8 : decode cX3_advance 8 = .ok (.aload_n 1, 1) := by decide +kernel
theorem dX3_advance_9 : decode cX3_advance 9 = .ok (.iload 4, 2) := by decide +kernel
theorem dX3_advance_11 : decode cX3_advance 11 = .ok (.iaload, 1) := by decide +kernel
theorem dX3_advance_12 : decode cX3_advance 12 = .ok (.aload_n 0, 1) := by decide +kernel
theorem dX3_advance_13 : decode cX3_advance 13 = .ok (.getfield 9, 3) := by decide +kernel
theorem dX3_advance_16 : decode cX3_advance 16 = .ok (.iconst 1, 1) := by decide +kernel
theorem dX3_advance_17 : decode cX3_advance 17 = .ok (.isub, 1) := by decide +kernel
theorem dX3_advance_18 : decode cX3_advance 18 = .ok (.if_icmp .lt 9, 3) := by decide +kernel
theorem dX3_advance_21 : decode cX3_advance 21 = .ok (.iinc 4 (-1), 3) := by decide +kernel
theorem dX3_advance_24 : decode cX3_advance 24 = .ok (.goto (-21), 3) := by decide +kernel
theorem dX3_advance_27 : decode cX3_advance 27 = .ok (.iload 4, 2) := by decide +kernel
theorem dX3_advance_29 : decode cX3_advance 29 = .ok (.ifCond .ge 5, 3) := by decide +kernel
theorem dX3_advance_32 : decode cX3_advance 32 = .ok (.iconst (-1), 1) := by decide +kernel
theorem dX3_advance_33 : decode cX3_advance 33 = .ok (.ireturn, 1) := by decide +kernel
theorem dX3_advance_34 : decode cX3_advance 34 = .ok (.aload_n 1, 1) := by decide +kernel
theorem dX3_advance_35 : decode cX3_advance 35 = .ok (.iload 4, 2) := by decide +kernel
theorem dX3_advance_37 : decode cX3_advance 37 = .ok (.dup2, 1) := by decide +kernel
theorem dX3_advance_38 : decode cX3_advance 38 = .ok (.iaload, 1) := by decide +kernel
theorem dX3_advance_39 : decode cX3_advance 39 = .ok (.iconst 1, 1) := by decide +kernel
theorem dX3_advance_40 : decode cX3_advance 40 = .ok (.iadd, 1) := by decide +kernel
theorem dX3_advance_41 : decode cX3_advance 41 = .ok (.iastore, 1) := by decide +kernel
theorem dX3_advance_42 : decode cX3_advance 42 = .ok (.iload 4, 2) := by decide +kernel
theorem dX3_advance_44 : decode cX3_advance 44 = .ok (.iconst 1, 1) := by decide +kernel
theorem dX3_advance_45 : decode cX3_advance 45 = .ok (.iadd, 1) := by decide +kernel
theorem dX3_advance_46 : decode cX3_advance 46 = .ok (.istore 5, 2) := by decide +kernel
theorem dX3_advance_48 : decode cX3_advance 48 = .ok (.iload 5, 2) := by decide +kernel
theorem dX3_advance_50 : decode cX3_advance 50 = .ok (.iload_n 3, 1) := by decide +kernel
theorem dX3_advance_51 : decode cX3_advance 51 = .ok (.if_icmp .ge 14, 3) := by decide +kernel
theorem dX3_advance_54 : decode cX3_advance 54 = .ok (.aload_n 1, 1) := by decide +kernel
theorem dX3_advance_55 : decode cX3_advance 55 = .ok (.iload 5, 2) := by decide +kernel
theorem dX3_advance_57 : decode cX3_advance 57 = .ok (.iconst 0, 1) := by decide +kernel
theorem dX3_advance_58 : decode cX3_advance 58 = .ok (.iastore, 1) := by decide +kernel
theorem dX3_advance_59 : decode cX3_advance 59 = .ok (.iinc 5 1, 3) := by decide +kernel
theorem dX3_advance_62 : decode cX3_advance 62 = .ok (.goto (-14), 3) := by decide +kernel
theorem dX3_advance_65 : decode cX3_advance 65 = .ok (.iload 4, 2) := by decide +kernel
theorem dX3_advance_67 : decode cX3_advance 67 = .ok (.ireturn, 1) := by decide +kernel
theorem dX4_init_0 : decode cX4_init 0 = .ok (.aload_n 0, 1) := by decide +kernel
theorem dX4_init_1 : decode cX4_init 1 = .ok (.invokespecial 3, 3) := by decide +kernel
theorem dX4_init_4 : decode cX4_init 4 = .ok (.aload_n 0, 1) := by decide +kernel
theorem dX4_init_5 : decode cX4_init 5 = .ok (.iconst 0, 1) := by decide +kernel
theorem dX4_init_6 : decode cX4_init 6 = .ok (.putfield 9, 3) := by decide +kernel
theorem dX4_init_9 : decode cX4_init 9 = .ok (.aload_n 0, 1) := by decide +kernel
theorem dX4_init_10 : decode cX4_init 10 = .ok (.bipush 9, 2) := by decide +kernel
theorem dX4_init_12 : decode cX4_init 12 = .ok (.newarray .int, 2) := by decide +kernel
theorem dX4_init_14 : decode cX4_init 14 = .ok (.putfield 15, 3) := by decide +kernel
theorem dX4_init_17 : decode cX4_init 17 = .ok (.aload_n 0, 1) := by decide +kernel
theorem dX4_init_18 : decode cX4_init 18 = .ok (.sipush 256, 3) := by decide +kernel
theorem dX4_init_21 : decode cX4_init 21 = .ok (.newarray .int, 2) := by decide +kernel
theorem dX4_init_23 : decode cX4_init 23 = .ok (.putfield 19, 3) := by decide +kernel
theorem dX4_init_26 : decode cX4_init 26 = .ok (.aload_n 0, 1) := by decide +kernel
theorem dX4_init_27 : decode cX4_init 27 = .ok (.sipush 256, 3) := by decide +kernel
theorem dX4_init_30 : decode cX4_init 30 = .ok (.newarray .int, 2) := by decide +kernel
theorem dX4_init_32 : decode cX4_init 32 = .ok (.putfield 22, 3) := by decide +kernel
theorem dX4_init_35 : decode cX4_init 35 = .ok (.aload_n 0, 1) := by decide +kernel
theorem dX4_init_36 : decode cX4_init 36 = .ok (.bipush 8, 2) := by decide +kernel
theorem dX4_init_38 : decode cX4_init 38 = .ok (.newarray .int, 2) := by decide +kernel
theorem dX4_init_40 : decode cX4_init 40 = .ok (.putfield 25, 3) := by decide +kernel
theorem dX4_init_43 : decode cX4_init 43 = .ok (.aload_n 0, 1) := by decide +kernel
theorem dX4_init_44 : decode cX4_init 44 = .ok (.iconst 0, 1) := by decide +kernel
theorem dX4_init_45 : decode cX4_init 45 = .ok (.putfield 28, 3) := by decide +kernel
theorem dX4_init_48 : decode cX4_init 48 = .ok (.aload_n 0, 1) := by decide +kernel
theorem dX4_init_49 : decode cX4_init 49 = .ok (.aload_n 1, 1) := by decide +kernel
theorem dX4_init_50 : decode cX4_init 50 = .ok (.putfield 32, 3) := by decide +kernel
theorem dX4_init_53 : decode cX4_init 53 = .ok (.return_, 1) := by decide +kernel
theorem dX4_reachOf_0 : decode cX4_reachOf 0 = .ok (.iload_n 1, 1) := by decide +kernel
theorem dX4_reachOf_1 : decode cX4_reachOf 1 = .ok (.bipush 14, 2) := by decide +kernel
theorem dX4_reachOf_3 : decode cX4_reachOf 3 = .ok (.ishr, 1) := by decide +kernel
theorem dX4_reachOf_4 : decode cX4_reachOf 4 = .ok (.ireturn, 1) := by decide +kernel
theorem dX4_rowOf_0 : decode cX4_rowOf 0 = .ok (.iload_n 1, 1) := by decide +kernel
theorem dX4_rowOf_1 : decode cX4_rowOf 1 = .ok (.sipush 16383, 3) := by decide +kernel
theorem dX4_rowOf_4 : decode cX4_rowOf 4 = .ok (.iand, 1) := by decide +kernel
theorem dX4_rowOf_5 : decode cX4_rowOf 5 = .ok (.ireturn, 1) := by decide +kernel
theorem dX4_refresh_0 : decode cX4_refresh 0 = .ok (.aload_n 0, 1) := by decide +kernel
theorem dX4_refresh_1 : decode cX4_refresh 1 = .ok (.getfield 9, 3) := by decide +kernel
theorem dX4_refresh_4 : decode cX4_refresh 4 = .ok (.ifCond .eq 4, 3) := by decide +kernel
theorem dX4_refresh_7 : decode cX4_refresh 7 = .ok (.return_, 1) := by decide +kernel
theorem dX4_refresh_8 : decode cX4_refresh 8 = .ok (.aload_n 0, 1) := by decide +kernel
theorem dX4_refresh_9 : decode cX4_refresh 9 = .ok (.iconst 1, 1) := by decide +kernel
theorem dX4_refresh_10 : decode cX4_refresh 10 = .ok (.putfield 9, 3) := by decide +kernel
theorem dX4_refresh_13 : decode cX4_refresh 13 = .ok (.aload_n 0, 1) := by decide +kernel
theorem dX4_refresh_14 : decode cX4_refresh 14 = .ok (.aload_n 0, 1) := by decide +kernel
theorem dX4_refresh_15 : decode cX4_refresh 15 = .ok (.getfield 32, 3) := by decide +kernel
theorem dX4_refresh_18 : decode cX4_refresh 18 = .ok (.getfield 36, 3) := by decide +kernel
theorem dX4_refresh_21 : decode cX4_refresh 21 = .ok (.iconst 1, 1) := by decide +kernel
theorem dX4_refresh_22 : decode cX4_refresh 22 = .ok (.invokevirtual 42, 3) := by decide +kernel
theorem dX4_refresh_25 : decode cX4_refresh 25 = .ok (.putfield 28, 3) := by decide +kernel
theorem dX4_refresh_28 : decode cX4_refresh 28 = .ok (.iconst 0, 1) := by decide +kernel
theorem dX4_refresh_29 : decode cX4_refresh 29 = .ok (.istore_n 1, 1) := by decide +kernel
theorem dX4_refresh_30 : decode cX4_refresh 30 = .ok (.iload_n 1, 1) := by decide +kernel
theorem dX4_refresh_31 : decode cX4_refresh 31 = .ok (.sipush 256, 3) := by decide +kernel
theorem dX4_refresh_34 : decode cX4_refresh 34 = .ok (.if_icmp .ge 17, 3) := by decide +kernel
theorem dX4_refresh_37 : decode cX4_refresh 37 = .ok (.aload_n 0, 1) := by decide +kernel
theorem dX4_refresh_38 : decode cX4_refresh 38 = .ok (.getfield 19, 3) := by decide +kernel
theorem dX4_refresh_41 : decode cX4_refresh 41 = .ok (.iload_n 1, 1) := by decide +kernel
theorem dX4_refresh_42 : decode cX4_refresh 42 = .ok (.ldc 48, 2) := by decide +kernel
theorem dX4_refresh_44 : decode cX4_refresh 44 = .ok (.iastore, 1) := by decide +kernel
theorem dX4_refresh_45 : decode cX4_refresh 45 = .ok (.iinc 1 1, 3) := by decide +kernel
theorem dX4_refresh_48 : decode cX4_refresh 48 = .ok (.goto (-18), 3) := by decide +kernel
theorem dX4_refresh_51 : decode cX4_refresh 51 = .ok (.aload_n 0, 1) := by decide +kernel
theorem dX4_refresh_52 : decode cX4_refresh 52 = .ok (.getfield 28, 3) := by decide +kernel
theorem dX4_refresh_55 : decode cX4_refresh 55 = .ok (.ifCond .eq 15, 3) := by decide +kernel
theorem dX4_refresh_58 : decode cX4_refresh 58 = .ok (.aload_n 0, 1) := by decide +kernel
theorem dX4_refresh_59 : decode cX4_refresh 59 = .ok (.invokevirtual 49, 3) := by decide +kernel
theorem dX4_refresh_62 : decode cX4_refresh 62 = .ok (.aload_n 0, 1) := by decide +kernel
theorem dX4_refresh_63 : decode cX4_refresh 63 = .ok (.invokevirtual 52, 3) := by decide +kernel
theorem dX4_refresh_66 : decode cX4_refresh 66 = .ok (.aload_n 0, 1) := by decide +kernel
theorem dX4_refresh_67 : decode cX4_refresh 67 = .ok (.invokevirtual 55, 3) := by decide +kernel
theorem dX4_refresh_70 : decode cX4_refresh 70 = .ok (.return_, 1) := by decide +kernel
theorem dX4_lookAtAll_0 : decode cX4_lookAtAll 0 = .ok (.aload_n 0, 1) := by decide +kernel
theorem dX4_lookAtAll_1 : decode cX4_lookAtAll 1 = .ok (.getfield 32, 3) := by decide +kernel
theorem dX4_lookAtAll_4 : decode cX4_lookAtAll 4 = .ok (.getfield 58, 3) := by decide +kernel
theorem dX4_lookAtAll_7 : decode cX4_lookAtAll 7 = .ok (.astore_n 1, 1) := by decide +kernel
theorem dX4_lookAtAll_8 : decode cX4_lookAtAll 8 = .ok (.aload_n 0, 1) := by decide +kernel
theorem dX4_lookAtAll_9 : decode cX4_lookAtAll 9 = .ok (.getfield 32, 3) := by decide +kernel
theorem dX4_lookAtAll_12 : decode cX4_lookAtAll 12 = .ok (.invokevirtual 62, 3) := by decide +kernel
theorem dX4_lookAtAll_15 : decode cX4_lookAtAll 15 = .ok (.istore_n 2, 1) := by decide +kernel
theorem dX4_lookAtAll_16 : decode cX4_lookAtAll 16 = .ok (.iconst 0, 1) := by decide +kernel
theorem dX4_lookAtAll_17 : decode cX4_lookAtAll 17 = .ok (.istore_n 3, 1) := by decide +kernel
theorem dX4_lookAtAll_18 : decode cX4_lookAtAll 18 = .ok (.iload_n 3, 1) := by decide +kernel
theorem dX4_lookAtAll_19 : decode cX4_lookAtAll 19 = .ok (.aload_n 0, 1) := by decide +kernel
theorem dX4_lookAtAll_20 : decode cX4_lookAtAll 20 = .ok (.getfield 32, 3) := by decide +kernel
theorem dX4_lookAtAll_23 : decode cX4_lookAtAll 23 = .ok (.getfield 66, 3) := by decide +kernel
theorem dX4_lookAtAll_26 : decode cX4_lookAtAll 26 = .ok (.if_icmp .ge 16, 3) := by decide +kernel
theorem dX4_lookAtAll_29 : decode cX4_lookAtAll 29 = .ok (.aload_n 0, 1) := by decide +kernel
theorem dX4_lookAtAll_30 : decode cX4_lookAtAll 30 = .ok (.getfield 25, 3) := by decide +kernel
theorem dX4_lookAtAll_33 : decode cX4_lookAtAll 33 = .ok (.iload_n 3, 1) := by decide +kernel
theorem dX4_lookAtAll_34 : decode cX4_lookAtAll 34 = .ok (.iload_n 3, 1) := by decide +kernel
theorem dX4_lookAtAll_35 : decode cX4_lookAtAll 35 = .ok (.iastore, 1) := by decide +kernel
theorem dX4_lookAtAll_36 : decode cX4_lookAtAll 36 = .ok (.iinc 3 1, 3) := by decide +kernel
theorem dX4_lookAtAll_39 : decode cX4_lookAtAll 39 = .ok (.goto (-21), 3) := by decide +kernel
theorem dX4_lookAtAll_42 : decode cX4_lookAtAll 42 = .ok (.iconst 0, 1) := by decide +kernel
theorem dX4_lookAtAll_43 : decode cX4_lookAtAll 43 = .ok (.istore_n 3, 1) := by decide +kernel
theorem dX4_lookAtAll_44 : decode cX4_lookAtAll 44 = .ok (.iload_n 2, 1) := by decide +kernel
theorem dX4_lookAtAll_45 : decode cX4_lookAtAll 45 = .ok (.ifCond .le 56, 3) := by decide +kernel
theorem dX4_lookAtAll_48 : decode cX4_lookAtAll 48 = .ok (.iload_n 3, 1) := by decide +kernel
theorem dX4_lookAtAll_49 : decode cX4_lookAtAll 49 = .ok (.ifCond .lt 52, 3) := by decide +kernel
theorem dX4_lookAtAll_52 : decode cX4_lookAtAll 52 = .ok (.aload_n 1, 1) := by decide +kernel
theorem dX4_lookAtAll_53 : decode cX4_lookAtAll 53 = .ok (.iload_n 3, 1) := by decide +kernel
theorem dX4_lookAtAll_54 : decode cX4_lookAtAll 54 = .ok (.invokevirtual 69, 3) := by decide +kernel
theorem dX4_lookAtAll_57 : decode cX4_lookAtAll 57 = .ok (.aload_n 0, 1) := by decide +kernel
theorem dX4_lookAtAll_58 : decode cX4_lookAtAll 58 = .ok (.getfield 32, 3) := by decide +kernel
theorem dX4_lookAtAll_61 : decode cX4_lookAtAll 61 = .ok (.invokevirtual 75, 3) := by decide +kernel
theorem dX4_lookAtAll_64 : decode cX4_lookAtAll 64 = .ok (.ifCond .eq 20, 3) := by decide +kernel
theorem dX4_lookAtAll_67 : decode cX4_lookAtAll 67 = .ok (.aload_n 0, 1) := by decide +kernel
theorem dX4_lookAtAll_68 : decode cX4_lookAtAll 68 = .ok (.aload_n 1, 1) := by decide +kernel
theorem dX4_lookAtAll_69 : decode cX4_lookAtAll 69 = .ok (.getfield 79, 3) := by decide +kernel
theorem dX4_lookAtAll_72 : decode cX4_lookAtAll 72 = .ok (.aload_n 1, 1) := by decide +kernel
theorem dX4_lookAtAll_73 : decode cX4_lookAtAll 73 = .ok (.invokevirtual 82, 3) := by decide +kernel
theorem dX4_lookAtAll_76 : decode cX4_lookAtAll 76 = .ok (.invokevirtual 85, 3) := by decide +kernel
theorem dX4_lookAtAll_79 : decode cX4_lookAtAll 79 = .ok (.aload_n 0, 1) := by decide +kernel
theorem dX4_lookAtAll_80 : decode cX4_lookAtAll 80 = .ok (.aload_n 1, 1) := by decide +kernel
theorem dX4_lookAtAll_81 : decode cX4_lookAtAll 81 = .ok (.invokevirtual 89, 3) := by decide +kernel
theorem dX4_lookAtAll_84 : decode cX4_lookAtAll 84 = .ok (.aload_n 1, 1) := by decide +kernel
theorem dX4_lookAtAll_85 : decode cX4_lookAtAll 85 = .ok (.aload_n 1, 1) := by decide +kernel
theorem dX4_lookAtAll_86 : decode cX4_lookAtAll 86 = .ok (.getfield 93, 3) := by decide +kernel
theorem dX4_lookAtAll_89 : decode cX4_lookAtAll 89 = .ok (.iconst 1, 1) := by decide +kernel
theorem dX4_lookAtAll_90 : decode cX4_lookAtAll 90 = .ok (.isub, 1) := by decide +kernel
theorem dX4_lookAtAll_91 : decode cX4_lookAtAll 91 = .ok (.invokevirtual 96, 3) := by decide +kernel
theorem dX4_lookAtAll_94 : decode cX4_lookAtAll 94 = .ok (.istore_n 3, 1) := by decide +kernel
theorem dX4_lookAtAll_95 : decode cX4_lookAtAll 95 = .ok (.iinc 2 (-1), 3) := by decide +kernel
theorem dX4_lookAtAll_98 : decode cX4_lookAtAll 98 = .ok (.goto (-54), 3) := by decide +kernel
theorem dX4_lookAtAll_101 : decode cX4_lookAtAll 101 = .ok (.return_, 1) := by decide +kernel
theorem dX4_sortByDistance_0 : decode cX4_sortByDistance 0 = .ok (.iconst 1, 1) := by decide +kernel
theorem dX4_sortByDistance_1 : decode cX4_sortByDistance 1 = .ok (.istore_n 3, 1) := by decide +kernel
theorem dX4_sortByDistance_2 : decode cX4_sortByDistance 2 = .ok (.iload_n 3, 1) := by decide +kernel
theorem dX4_sortByDistance_3 : decode cX4_sortByDistance 3 = .ok (.aload_n 0, 1) := by decide +kernel
theorem dX4_sortByDistance_4 : decode cX4_sortByDistance 4 = .ok (.getfield 32, 3) := by decide +kernel
theorem dX4_sortByDistance_7 : decode cX4_sortByDistance 7 = .ok (.getfield 66, 3) := by decide +kernel
theorem dX4_sortByDistance_10 : decode cX4_sortByDistance 10 = .ok (.if_icmp .ge 84, 3) := by decide +kernel
theorem dX4_sortByDistance_13 : decode cX4_sortByDistance 13 = .ok (.aload_n 0, 1) := by decide +kernel
theorem dX4_sortByDistance_14 : decode cX4_sortByDistance 14 = .ok (.getfield 25, 3) := by decide +kernel
theorem dX4_sortByDistance_17 : decode cX4_sortByDistance 17 = .ok (.iload_n 3, 1) := by decide +kernel
theorem dX4_sortByDistance_18 : decode cX4_sortByDistance 18 = .ok (.iaload, 1) := by decide +kernel
theorem dX4_sortByDistance_19 : decode cX4_sortByDistance 19 = .ok (.istore 4, 2) := by decide +kernel
theorem dX4_sortByDistance_21 : decode cX4_sortByDistance 21 = .ok (.aload_n 1, 1) := by decide +kernel
theorem dX4_sortByDistance_22 : decode cX4_sortByDistance 22 = .ok (.iload_n 2, 1) := by decide +kernel
theorem dX4_sortByDistance_23 : decode cX4_sortByDistance 23 = .ok (.iload 4, 2) := by decide +kernel
theorem dX4_sortByDistance_25 : decode cX4_sortByDistance 25 = .ok (.iadd, 1) := by decide +kernel
theorem dX4_sortByDistance_26 : decode cX4_sortByDistance 26 = .ok (.iaload, 1) := by decide +kernel
theorem dX4_sortByDistance_27 : decode cX4_sortByDistance 27 = .ok (.istore 5, 2) := by decide +kernel
theorem dX4_sortByDistance_29 : decode cX4_sortByDistance 29 = .ok (.iload_n 3, 1) := by decide +kernel
theorem dX4_sortByDistance_30 : decode cX4_sortByDistance 30 = .ok (.iconst 1, 1) := by decide +kernel
theorem dX4_sortByDistance_31 : decode cX4_sortByDistance 31 = .ok (.isub, 1) := by decide +kernel
theorem dX4_sortByDistance_32 : decode cX4_sortByDistance 32 = .ok (.istore 6, 2) := by decide +kernel
theorem dX4_sortByDistance_34 : decode cX4_sortByDistance 34 = .ok (.iload 6, 2) := by decide +kernel
theorem dX4_sortByDistance_36 : decode cX4_sortByDistance 36 = .ok (.ifCond .lt 41, 3) := by decide +kernel
theorem dX4_sortByDistance_39 : decode cX4_sortByDistance 39 = .ok (.aload_n 1, 1) := by decide +kernel
theorem dX4_sortByDistance_40 : decode cX4_sortByDistance 40 = .ok (.iload_n 2, 1) := by decide +kernel
theorem dX4_sortByDistance_41 : decode cX4_sortByDistance 41 = .ok (.aload_n 0, 1) := by decide +kernel
theorem dX4_sortByDistance_42 : decode cX4_sortByDistance 42 = .ok (.getfield 25, 3) := by decide +kernel
theorem dX4_sortByDistance_45 : decode cX4_sortByDistance 45 = .ok (.iload 6, 2) := by decide +kernel
theorem dX4_sortByDistance_47 : decode cX4_sortByDistance 47 = .ok (.iaload, 1) := by decide +kernel
theorem dX4_sortByDistance_48 : decode cX4_sortByDistance 48 = .ok (.iadd, 1) := by decide +kernel
theorem dX4_sortByDistance_49 : decode cX4_sortByDistance 49 = .ok (.iaload, 1) := by decide +kernel
theorem dX4_sortByDistance_50 : decode cX4_sortByDistance 50 = .ok (.iload 5, 2) := by decide +kernel
theorem dX4_sortByDistance_52 : decode cX4_sortByDistance 52 = .ok (.if_icmp .le 25, 3) := by decide +kernel
theorem dX4_sortByDistance_55 : decode cX4_sortByDistance 55 = .ok (.aload_n 0, 1) := by decide +kernel
theorem dX4_sortByDistance_56 : decode cX4_sortByDistance 56 = .ok (.getfield 25, 3) := by decide +kernel
theorem dX4_sortByDistance_59 : decode cX4_sortByDistance 59 = .ok (.iload 6, 2) := by decide +kernel
theorem dX4_sortByDistance_61 : decode cX4_sortByDistance 61 = .ok (.iconst 1, 1) := by decide +kernel
theorem dX4_sortByDistance_62 : decode cX4_sortByDistance 62 = .ok (.iadd, 1) := by decide +kernel
theorem dX4_sortByDistance_63 : decode cX4_sortByDistance 63 = .ok (.aload_n 0, 1) := by decide +kernel
theorem dX4_sortByDistance_64 : decode cX4_sortByDistance 64 = .ok (.getfield 25, 3) := by decide +kernel
theorem dX4_sortByDistance_67 : decode cX4_sortByDistance 67 = .ok (.iload 6, 2) := by decide +kernel
theorem dX4_sortByDistance_69 : decode cX4_sortByDistance 69 = .ok (.iaload, 1) := by decide +kernel
theorem dX4_sortByDistance_70 : decode cX4_sortByDistance 70 = .ok (.iastore, 1) := by decide +kernel
theorem dX4_sortByDistance_71 : decode cX4_sortByDistance 71 = .ok (.iinc 6 (-1), 3) := by decide +kernel
theorem dX4_sortByDistance_74 : decode cX4_sortByDistance 74 = .ok (.goto (-40), 3) := by decide +kernel
theorem dX4_sortByDistance_77 : decode cX4_sortByDistance 77 = .ok (.aload_n 0, 1) := by decide +kernel
theorem dX4_sortByDistance_78 : decode cX4_sortByDistance 78 = .ok (.getfield 25, 3) := by decide +kernel
theorem dX4_sortByDistance_81 : decode cX4_sortByDistance 81 = .ok (.iload 6, 2) := by decide +kernel
theorem dX4_sortByDistance_83 : decode cX4_sortByDistance 83 = .ok (.iconst 1, 1) := by decide +kernel
theorem dX4_sortByDistance_84 : decode cX4_sortByDistance 84 = .ok (.iadd, 1) := by decide +kernel
theorem dX4_sortByDistance_85 : decode cX4_sortByDistance 85 = .ok (.iload 4, 2) := by decide +kernel
theorem dX4_sortByDistance_87 : decode cX4_sortByDistance 87 = .ok (.iastore, 1) := by decide +kernel
theorem dX4_sortByDistance_88 : decode cX4_sortByDistance 88 = .ok (.iinc 3 1, 3) := by decide +kernel
theorem dX4_sortByDistance_91 : decode cX4_sortByDistance 91 = .ok (.goto (-89), 3) := by decide +kernel
theorem dX4_sortByDistance_94 : decode cX4_sortByDistance 94 = .ok (.return_, 1) := by decide +kernel
theorem dX4_holdNearest_0 : decode cX4_holdNearest 0 = .ok (.aload_n 1, 1) := by decide +kernel
theorem dX4_holdNearest_1 : decode cX4_holdNearest 1 = .ok (.invokevirtual 82, 3) := by decide +kernel
theorem dX4_holdNearest_4 : decode cX4_holdNearest 4 = .ok (.istore_n 2, 1) := by decide +kernel
theorem dX4_holdNearest_5 : decode cX4_holdNearest 5 = .ok (.aload_n 1, 1) := by decide +kernel
theorem dX4_holdNearest_6 : decode cX4_holdNearest 6 = .ok (.invokevirtual 99, 3) := by decide +kernel
theorem dX4_holdNearest_9 : decode cX4_holdNearest 9 = .ok (.istore_n 3, 1) := by decide +kernel
theorem dX4_holdNearest_10 : decode cX4_holdNearest 10 = .ok (.iconst 0, 1) := by decide +kernel
theorem dX4_holdNearest_11 : decode cX4_holdNearest 11 = .ok (.istore 4, 2) := by decide +kernel
theorem dX4_holdNearest_13 : decode cX4_holdNearest 13 = .ok (.aload_n 0, 1) := by decide +kernel
theorem dX4_holdNearest_14 : decode cX4_holdNearest 14 = .ok (.iload 4, 2) := by decide +kernel
theorem dX4_holdNearest_16 : decode cX4_holdNearest 16 = .ok (.iload_n 3, 1) := by decide +kernel
theorem dX4_holdNearest_17 : decode cX4_holdNearest 17 = .ok (.invokevirtual 102, 3) := by decide +kernel
theorem dX4_holdNearest_20 : decode cX4_holdNearest 20 = .ok (.iconst 0, 1) := by decide +kernel
theorem dX4_holdNearest_21 : decode cX4_holdNearest 21 = .ok (.istore 5, 2) := by decide +kernel
theorem dX4_holdNearest_23 : decode cX4_holdNearest 23 = .ok (.iload 5, 2) := by decide +kernel
theorem dX4_holdNearest_25 : decode cX4_holdNearest 25 = .ok (.aload_n 0, 1) := by decide +kernel
theorem dX4_holdNearest_26 : decode cX4_holdNearest 26 = .ok (.getfield 32, 3) := by decide +kernel
theorem dX4_holdNearest_29 : decode cX4_holdNearest 29 = .ok (.getfield 66, 3) := by decide +kernel
theorem dX4_holdNearest_32 : decode cX4_holdNearest 32 = .ok (.if_icmp .ge 54, 3) := by decide +kernel
theorem dX4_holdNearest_35 : decode cX4_holdNearest 35 = .ok (.iload 4, 2) := by decide +kernel
theorem dX4_holdNearest_37 : decode cX4_holdNearest 37 = .ok (.aload_n 0, 1) := by decide +kernel
theorem dX4_holdNearest_38 : decode cX4_holdNearest 38 = .ok (.getfield 32, 3) := by decide +kernel
theorem dX4_holdNearest_41 : decode cX4_holdNearest 41 = .ok (.getfield 106, 3) := by decide +kernel
theorem dX4_holdNearest_44 : decode cX4_holdNearest 44 = .ok (.aload_n 0, 1) := by decide +kernel
theorem dX4_holdNearest_45 : decode cX4_holdNearest 45 = .ok (.getfield 25, 3) := by decide +kernel
theorem dX4_holdNearest_48 : decode cX4_holdNearest 48 = .ok (.iload 5, 2) := by decide +kernel
theorem dX4_holdNearest_50 : decode cX4_holdNearest 50 = .ok (.iaload, 1) := by decide +kernel
theorem dX4_holdNearest_51 : decode cX4_holdNearest 51 = .ok (.iaload, 1) := by decide +kernel
theorem dX4_holdNearest_52 : decode cX4_holdNearest 52 = .ok (.ior, 1) := by decide +kernel
theorem dX4_holdNearest_53 : decode cX4_holdNearest 53 = .ok (.istore 4, 2) := by decide +kernel
theorem dX4_holdNearest_55 : decode cX4_holdNearest 55 = .ok (.aload_n 0, 1) := by decide +kernel
theorem dX4_holdNearest_56 : decode cX4_holdNearest 56 = .ok (.iload 4, 2) := by decide +kernel
theorem dX4_holdNearest_58 : decode cX4_holdNearest 58 = .ok (.aload_n 1, 1) := by decide +kernel
theorem dX4_holdNearest_59 : decode cX4_holdNearest 59 = .ok (.getfield 79, 3) := by decide +kernel
theorem dX4_holdNearest_62 : decode cX4_holdNearest 62 = .ok (.iload_n 2, 1) := by decide +kernel
theorem dX4_holdNearest_63 : decode cX4_holdNearest 63 = .ok (.aload_n 0, 1) := by decide +kernel
theorem dX4_holdNearest_64 : decode cX4_holdNearest 64 = .ok (.getfield 25, 3) := by decide +kernel
theorem dX4_holdNearest_67 : decode cX4_holdNearest 67 = .ok (.iload 5, 2) := by decide +kernel
theorem dX4_holdNearest_69 : decode cX4_holdNearest 69 = .ok (.iaload, 1) := by decide +kernel
theorem dX4_holdNearest_70 : decode cX4_holdNearest 70 = .ok (.iadd, 1) := by decide +kernel
theorem dX4_holdNearest_71 : decode cX4_holdNearest 71 = .ok (.iaload, 1) := by decide +kernel
theorem dX4_holdNearest_72 : decode cX4_holdNearest 72 = .ok (.bipush 14, 2) := by decide +kernel
