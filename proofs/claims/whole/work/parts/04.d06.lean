theorem dX11_knows_41 : decode cX11_knows 41 = .ok (.bipush 8, 2) := by decide +kernel
theorem dX11_knows_43 : decode cX11_knows 43 = .ok (.iload_n 1, 1) := by decide +kernel
theorem dX11_knows_44 : decode cX11_knows 44 = .ok (.imul, 1) := by decide +kernel
theorem dX11_knows_45 : decode cX11_knows 45 = .ok (.iload_n 2, 1) := by decide +kernel
theorem dX11_knows_46 : decode cX11_knows 46 = .ok (.iadd, 1) := by decide +kernel
theorem dX11_knows_47 : decode cX11_knows 47 = .ok (.aload_n 0, 1) := by decide +kernel
theorem dX11_knows_48 : decode cX11_knows 48 = .ok (.aload_n 0, 1) := by decide +kernel
theorem dX11_knows_49 : decode cX11_knows 49 = .ok (.getfield 49, 3) := by decide +kernel
theorem dX11_knows_52 : decode cX11_knows 52 = .ok (.iconst 0, 1) := by decide +kernel
theorem dX11_knows_53 : decode cX11_knows 53 = .ok (.aload_n 0, 1) := by decide +kernel
theorem dX11_knows_54 : decode cX11_knows 54 = .ok (.getfield 23, 3) := by decide +kernel
theorem dX11_knows_57 : decode cX11_knows 57 = .ok (.bipush 7, 2) := by decide +kernel
theorem dX11_knows_59 : decode cX11_knows 59 = .ok (.iload_n 2, 1) := by decide +kernel
theorem dX11_knows_60 : decode cX11_knows 60 = .ok (.imul, 1) := by decide +kernel
theorem dX11_knows_61 : decode cX11_knows 61 = .ok (.aload_n 0, 1) := by decide +kernel
theorem dX11_knows_62 : decode cX11_knows 62 = .ok (.getfield 110, 3) := by decide +kernel
theorem dX11_knows_65 : decode cX11_knows 65 = .ok (.invokevirtual 123, 3) := by decide +kernel
theorem dX11_knows_68 : decode cX11_knows 68 = .ok (.i2b, 1) := by decide +kernel
theorem dX11_knows_69 : decode cX11_knows 69 = .ok (.bastore, 1) := by decide +kernel
theorem dX11_knows_70 : decode cX11_knows 70 = .ok (.iinc 2 1, 3) := by decide +kernel
theorem dX11_knows_73 : decode cX11_knows 73 = .ok (.goto (-44), 3) := by decide +kernel
theorem dX11_knows_76 : decode cX11_knows 76 = .ok (.iinc 1 1, 3) := by decide +kernel
theorem dX11_knows_79 : decode cX11_knows 79 = .ok (.goto (-69), 3) := by decide +kernel
theorem dX11_knows_82 : decode cX11_knows 82 = .ok (.aload_n 0, 1) := by decide +kernel
theorem dX11_knows_83 : decode cX11_knows 83 = .ok (.iconst 1, 1) := by decide +kernel
theorem dX11_knows_84 : decode cX11_knows 84 = .ok (.putfield 71, 3) := by decide +kernel
theorem dX11_knows_87 : decode cX11_knows 87 = .ok (.return_, 1) := by decide +kernel
theorem dX11_isCandidate_0 : decode cX11_isCandidate 0 = .ok (.iconst 0, 1) := by decide +kernel
theorem dX11_isCandidate_1 : decode cX11_isCandidate 1 = .ok (.istore_n 2, 1) := by decide +kernel
theorem dX11_isCandidate_2 : decode cX11_isCandidate 2 = .ok (.iload_n 2, 1) := by decide +kernel
theorem dX11_isCandidate_3 : decode cX11_isCandidate 3 = .ok (.aload_n 0, 1) := by decide +kernel
theorem dX11_isCandidate_4 : decode cX11_isCandidate 4 = .ok (.getfield 85, 3) := by decide +kernel
theorem dX11_isCandidate_7 : decode cX11_isCandidate 7 = .ok (.if_icmp .ge 39, 3) := by decide +kernel
theorem dX11_isCandidate_10 : decode cX11_isCandidate 10 = .ok (.aload_n 0, 1) := by decide +kernel
theorem dX11_isCandidate_11 : decode cX11_isCandidate 11 = .ok (.getfield 27, 3) := by decide +kernel
theorem dX11_isCandidate_14 : decode cX11_isCandidate 14 = .ok (.iload_n 2, 1) := by decide +kernel
theorem dX11_isCandidate_15 : decode cX11_isCandidate 15 = .ok (.iaload, 1) := by decide +kernel
theorem dX11_isCandidate_16 : decode cX11_isCandidate 16 = .ok (.iconst 2, 1) := by decide +kernel
theorem dX11_isCandidate_17 : decode cX11_isCandidate 17 = .ok (.if_icmp .ne 23, 3) := by decide +kernel
theorem dX11_isCandidate_20 : decode cX11_isCandidate 20 = .ok (.aload_n 0, 1) := by decide +kernel
theorem dX11_isCandidate_21 : decode cX11_isCandidate 21 = .ok (.getfield 46, 3) := by decide +kernel
theorem dX11_isCandidate_24 : decode cX11_isCandidate 24 = .ok (.bipush 8, 2) := by decide +kernel
theorem dX11_isCandidate_26 : decode cX11_isCandidate 26 = .ok (.iload_n 1, 1) := by decide +kernel
theorem dX11_isCandidate_27 : decode cX11_isCandidate 27 = .ok (.imul, 1) := by decide +kernel
theorem dX11_isCandidate_28 : decode cX11_isCandidate 28 = .ok (.iload_n 2, 1) := by decide +kernel
theorem dX11_isCandidate_29 : decode cX11_isCandidate 29 = .ok (.iadd, 1) := by decide +kernel
theorem dX11_isCandidate_30 : decode cX11_isCandidate 30 = .ok (.baload, 1) := by decide +kernel
theorem dX11_isCandidate_31 : decode cX11_isCandidate 31 = .ok (.aload_n 0, 1) := by decide +kernel
theorem dX11_isCandidate_32 : decode cX11_isCandidate 32 = .ok (.getfield 97, 3) := by decide +kernel
theorem dX11_isCandidate_35 : decode cX11_isCandidate 35 = .ok (.if_icmp .ge 5, 3) := by decide +kernel
theorem dX11_isCandidate_38 : decode cX11_isCandidate 38 = .ok (.iconst 0, 1) := by decide +kernel
theorem dX11_isCandidate_39 : decode cX11_isCandidate 39 = .ok (.ireturn, 1) := by decide +kernel
theorem dX11_isCandidate_40 : decode cX11_isCandidate 40 = .ok (.iinc 2 1, 3) := by decide +kernel
theorem dX11_isCandidate_43 : decode cX11_isCandidate 43 = .ok (.goto (-41), 3) := by decide +kernel
theorem dX11_isCandidate_46 : decode cX11_isCandidate 46 = .ok (.iconst 1, 1) := by decide +kernel
theorem dX11_isCandidate_47 : decode cX11_isCandidate 47 = .ok (.ireturn, 1) := by decide +kernel
theorem dX11_many_0 : decode cX11_many 0 = .ok (.iconst 0, 1) := by decide +kernel
theorem dX11_many_1 : decode cX11_many 1 = .ok (.istore_n 2, 1) := by decide +kernel
theorem dX11_many_2 : decode cX11_many 2 = .ok (.iconst 0, 1) := by decide +kernel
theorem dX11_many_3 : decode cX11_many 3 = .ok (.istore_n 3, 1) := by decide +kernel
theorem dX11_many_4 : decode cX11_many 4 = .ok (.iload_n 3, 1) := by decide +kernel
theorem dX11_many_5 : decode cX11_many 5 = .ok (.aload_n 0, 1) := by decide +kernel
theorem dX11_many_6 : decode cX11_many 6 = .ok (.getfield 85, 3) := by decide +kernel
theorem dX11_many_9 : decode cX11_many 9 = .ok (.if_icmp .ge 22, 3) := by decide +kernel
theorem dX11_many_12 : decode cX11_many 12 = .ok (.aload_n 0, 1) := by decide +kernel
theorem dX11_many_13 : decode cX11_many 13 = .ok (.getfield 27, 3) := by decide +kernel
theorem dX11_many_16 : decode cX11_many 16 = .ok (.iload_n 3, 1) := by decide +kernel
theorem dX11_many_17 : decode cX11_many 17 = .ok (.iaload, 1) := by decide +kernel
theorem dX11_many_18 : decode cX11_many 18 = .ok (.iload_n 1, 1) := by decide +kernel
theorem dX11_many_19 : decode cX11_many 19 = .ok (.if_icmp .ne 6, 3) := by decide +kernel
theorem dX11_many_22 : decode cX11_many 22 = .ok (.iinc 2 1, 3) := by decide +kernel
theorem dX11_many_25 : decode cX11_many 25 = .ok (.iinc 3 1, 3) := by decide +kernel
theorem dX11_many_28 : decode cX11_many 28 = .ok (.goto (-24), 3) := by decide +kernel
theorem dX11_many_31 : decode cX11_many 31 = .ok (.iload_n 2, 1) := by decide +kernel
theorem dX11_many_32 : decode cX11_many 32 = .ok (.ireturn, 1) := by decide +kernel
theorem dX11_radius_0 : decode cX11_radius 0 = .ok (.iconst 0, 1) := by decide +kernel
theorem dX11_radius_1 : decode cX11_radius 1 = .ok (.istore_n 2, 1) := by decide +kernel
theorem dX11_radius_2 : decode cX11_radius 2 = .ok (.iconst 0, 1) := by decide +kernel
theorem dX11_radius_3 : decode cX11_radius 3 = .ok (.istore_n 3, 1) := by decide +kernel
theorem dX11_radius_4 : decode cX11_radius 4 = .ok (.iload_n 3, 1) := by decide +kernel
theorem dX11_radius_5 : decode cX11_radius 5 = .ok (.aload_n 0, 1) := by decide +kernel
theorem dX11_radius_6 : decode cX11_radius 6 = .ok (.getfield 85, 3) := by decide +kernel
theorem dX11_radius_9 : decode cX11_radius 9 = .ok (.if_icmp .ge 35, 3) := by decide +kernel
theorem dX11_radius_12 : decode cX11_radius 12 = .ok (.aload_n 0, 1) := by decide +kernel
theorem dX11_radius_13 : decode cX11_radius 13 = .ok (.getfield 27, 3) := by decide +kernel
theorem dX11_radius_16 : decode cX11_radius 16 = .ok (.iload_n 3, 1) := by decide +kernel
theorem dX11_radius_17 : decode cX11_radius 17 = .ok (.iaload, 1) := by decide +kernel
theorem dX11_radius_18 : decode cX11_radius 18 = .ok (.iconst 1, 1) := by decide +kernel
theorem dX11_radius_19 : decode cX11_radius 19 = .ok (.if_icmp .ne 19, 3) := by decide +kernel
theorem dX11_radius_22 : decode cX11_radius 22 = .ok (.iload_n 2, 1) := by decide +kernel
theorem dX11_radius_23 : decode cX11_radius 23 = .ok (.aload_n 0, 1) := by decide +kernel
theorem dX11_radius_24 : decode cX11_radius 24 = .ok (.getfield 46, 3) := by decide +kernel
theorem dX11_radius_27 : decode cX11_radius 27 = .ok (.bipush 8, 2) := by decide +kernel
theorem dX11_radius_29 : decode cX11_radius 29 = .ok (.iload_n 1, 1) := by decide +kernel
theorem dX11_radius_30 : decode cX11_radius 30 = .ok (.imul, 1) := by decide +kernel
theorem dX11_radius_31 : decode cX11_radius 31 = .ok (.iload_n 3, 1) := by decide +kernel
theorem dX11_radius_32 : decode cX11_radius 32 = .ok (.iadd, 1) := by decide +kernel
theorem dX11_radius_33 : decode cX11_radius 33 = .ok (.baload, 1) := by decide +kernel
theorem dX11_radius_34 : decode cX11_radius 34 = .ok (.invokestatic 138, 3) := by decide +kernel
theorem dX11_radius_37 : decode cX11_radius 37 = .ok (.istore_n 2, 1) := by decide +kernel
theorem dX11_radius_38 : decode cX11_radius 38 = .ok (.iinc 3 1, 3) := by decide +kernel
theorem dX11_radius_41 : decode cX11_radius 41 = .ok (.goto (-37), 3) := by decide +kernel
theorem dX11_radius_44 : decode cX11_radius 44 = .ok (.iload_n 2, 1) := by decide +kernel
theorem dX11_radius_45 : decode cX11_radius 45 = .ok (.ireturn, 1) := by decide +kernel
theorem dX11_radiusBut_0 : decode cX11_radiusBut 0 = .ok (.iconst 0, 1) := by decide +kernel
theorem dX11_radiusBut_1 : decode cX11_radiusBut 1 = .ok (.istore_n 3, 1) := by decide +kernel
theorem dX11_radiusBut_2 : decode cX11_radiusBut 2 = .ok (.iconst 0, 1) := by decide +kernel
theorem dX11_radiusBut_3 : decode cX11_radiusBut 3 = .ok (.istore 4, 2) := by decide +kernel
theorem dX11_radiusBut_5 : decode cX11_radiusBut 5 = .ok (.iload 4, 2) := by decide +kernel
theorem dX11_radiusBut_7 : decode cX11_radiusBut 7 = .ok (.aload_n 0, 1) := by decide +kernel
theorem dX11_radiusBut_8 : decode cX11_radiusBut 8 = .ok (.getfield 85, 3) := by decide +kernel
theorem dX11_radiusBut_11 : decode cX11_radiusBut 11 = .ok (.if_icmp .ge 150, 3) := by decide +kernel
theorem dX11_radiusBut_14 : decode cX11_radiusBut 14 = .ok (.aload_n 0, 1) := by decide +kernel
theorem dX11_radiusBut_15 : decode cX11_radiusBut 15 = .ok (.getfield 27, 3) := by decide +kernel
theorem dX11_radiusBut_18 : decode cX11_radiusBut 18 = .ok (.iload 4, 2) := by decide +kernel
theorem dX11_radiusBut_20 : decode cX11_radiusBut 20 = .ok (.iaload, 1) := by decide +kernel
theorem dX11_radiusBut_21 : decode cX11_radiusBut 21 = .ok (.iconst 1, 1) := by decide +kernel
theorem dX11_radiusBut_22 : decode cX11_radiusBut 22 = .ok (.if_icmp .eq 6, 3) := by decide +kernel
theorem dX11_radiusBut_25 : decode cX11_radiusBut 25 = .ok (.goto 130, 3) := by decide +kernel
theorem dX11_radiusBut_28 : decode cX11_radiusBut 28 = .ok (.iconst 0, 1) := by decide +kernel
theorem dX11_radiusBut_29 : decode cX11_radiusBut 29 = .ok (.istore 5, 2) := by decide +kernel
theorem dX11_radiusBut_31 : decode cX11_radiusBut 31 = .ok (.iconst 0, 1) := by decide +kernel
theorem dX11_radiusBut_32 : decode cX11_radiusBut 32 = .ok (.istore 6, 2) := by decide +kernel
theorem dX11_radiusBut_34 : decode cX11_radiusBut 34 = .ok (.iload 6, 2) := by decide +kernel
theorem dX11_radiusBut_36 : decode cX11_radiusBut 36 = .ok (.aload_n 0, 1) := by decide +kernel
theorem dX11_radiusBut_37 : decode cX11_radiusBut 37 = .ok (.getfield 85, 3) := by decide +kernel
theorem dX11_radiusBut_40 : decode cX11_radiusBut 40 = .ok (.if_icmp .ge 96, 3) := by decide +kernel
theorem dX11_radiusBut_43 : decode cX11_radiusBut 43 = .ok (.aload_n 0, 1) := by decide +kernel
theorem dX11_radiusBut_44 : decode cX11_radiusBut 44 = .ok (.getfield 27, 3) := by decide +kernel
theorem dX11_radiusBut_47 : decode cX11_radiusBut 47 = .ok (.iload 6, 2) := by decide +kernel
theorem dX11_radiusBut_49 : decode cX11_radiusBut 49 = .ok (.iaload, 1) := by decide +kernel
theorem dX11_radiusBut_50 : decode cX11_radiusBut 50 = .ok (.iconst 1, 1) := by decide +kernel
theorem dX11_radiusBut_51 : decode cX11_radiusBut 51 = .ok (.if_icmp .ne 68, 3) := by decide +kernel
theorem dX11_radiusBut_54 : decode cX11_radiusBut 54 = .ok (.aload_n 0, 1) := by decide +kernel
theorem dX11_radiusBut_55 : decode cX11_radiusBut 55 = .ok (.getfield 46, 3) := by decide +kernel
theorem dX11_radiusBut_58 : decode cX11_radiusBut 58 = .ok (.bipush 8, 2) := by decide +kernel
theorem dX11_radiusBut_60 : decode cX11_radiusBut 60 = .ok (.iload_n 1, 1) := by decide +kernel
theorem dX11_radiusBut_61 : decode cX11_radiusBut 61 = .ok (.imul, 1) := by decide +kernel
theorem dX11_radiusBut_62 : decode cX11_radiusBut 62 = .ok (.iload 6, 2) := by decide +kernel
theorem dX11_radiusBut_64 : decode cX11_radiusBut 64 = .ok (.iadd, 1) := by decide +kernel
theorem dX11_radiusBut_65 : decode cX11_radiusBut 65 = .ok (.baload, 1) := by decide +kernel
theorem dX11_radiusBut_66 : decode cX11_radiusBut 66 = .ok (.aload_n 0, 1) := by decide +kernel
theorem dX11_radiusBut_67 : decode cX11_radiusBut 67 = .ok (.getfield 46, 3) := by decide +kernel
theorem dX11_radiusBut_70 : decode cX11_radiusBut 70 = .ok (.bipush 8, 2) := by decide +kernel
theorem dX11_radiusBut_72 : decode cX11_radiusBut 72 = .ok (.iload_n 1, 1) := by decide +kernel
theorem dX11_radiusBut_73 : decode cX11_radiusBut 73 = .ok (.imul, 1) := by decide +kernel
theorem dX11_radiusBut_74 : decode cX11_radiusBut 74 = .ok (.iload 4, 2) := by decide +kernel
theorem dX11_radiusBut_76 : decode cX11_radiusBut 76 = .ok (.iadd, 1) := by decide +kernel
theorem dX11_radiusBut_77 : decode cX11_radiusBut 77 = .ok (.baload, 1) := by decide +kernel
theorem dX11_radiusBut_78 : decode cX11_radiusBut 78 = .ok (.if_icmp .gt 37, 3) := by decide +kernel
theorem dX11_radiusBut_81 : decode cX11_radiusBut 81 = .ok (.aload_n 0, 1) := by decide +kernel
theorem dX11_radiusBut_82 : decode cX11_radiusBut 82 = .ok (.getfield 46, 3) := by decide +kernel
theorem dX11_radiusBut_85 : decode cX11_radiusBut 85 = .ok (.bipush 8, 2) := by decide +kernel
theorem dX11_radiusBut_87 : decode cX11_radiusBut 87 = .ok (.iload_n 1, 1) := by decide +kernel
theorem dX11_radiusBut_88 : decode cX11_radiusBut 88 = .ok (.imul, 1) := by decide +kernel
theorem dX11_radiusBut_89 : decode cX11_radiusBut 89 = .ok (.iload 6, 2) := by decide +kernel
theorem dX11_radiusBut_91 : decode cX11_radiusBut 91 = .ok (.iadd, 1) := by decide +kernel
theorem dX11_radiusBut_92 : decode cX11_radiusBut 92 = .ok (.baload, 1) := by decide +kernel
theorem dX11_radiusBut_93 : decode cX11_radiusBut 93 = .ok (.aload_n 0, 1) := by decide +kernel
theorem dX11_radiusBut_94 : decode cX11_radiusBut 94 = .ok (.getfield 46, 3) := by decide +kernel
theorem dX11_radiusBut_97 : decode cX11_radiusBut 97 = .ok (.bipush 8, 2) := by decide +kernel
theorem dX11_radiusBut_99 : decode cX11_radiusBut 99 = .ok (.iload_n 1, 1) := by decide +kernel
theorem dX11_radiusBut_100 : decode cX11_radiusBut 100 = .ok (.imul, 1) := by decide +kernel
theorem dX11_radiusBut_101 : decode cX11_radiusBut 101 = .ok (.iload 4, 2) := by decide +kernel
theorem dX11_radiusBut_103 : decode cX11_radiusBut 103 = .ok (.iadd, 1) := by decide +kernel
theorem dX11_radiusBut_104 : decode cX11_radiusBut 104 = .ok (.baload, 1) := by decide +kernel
theorem dX11_radiusBut_105 : decode cX11_radiusBut 105 = .ok (.if_icmp .ne 14, 3) := by decide +kernel
theorem dX11_radiusBut_108 : decode cX11_radiusBut 108 = .ok (.iload 6, 2) := by decide +kernel
theorem dX11_radiusBut_110 : decode cX11_radiusBut 110 = .ok (.iload 4, 2) := by decide +kernel
theorem dX11_radiusBut_112 : decode cX11_radiusBut 112 = .ok (.if_icmp .ge 7, 3) := by decide +kernel
theorem dX11_radiusBut_115 : decode cX11_radiusBut 115 = .ok (.iconst 1, 1) := by decide +kernel
theorem dX11_radiusBut_116 : decode cX11_radiusBut 116 = .ok (.goto 4, 3) := by decide +kernel
theorem dX11_radiusBut_119 : decode cX11_radiusBut 119 = .ok (.iconst 0, 1) := by decide +kernel
theorem dX11_radiusBut_120 : decode cX11_radiusBut 120 = .ok (.istore 7, 2) := by decide +kernel
theorem dX11_radiusBut_122 : decode cX11_radiusBut 122 = .ok (.iload 7, 2) := by decide +kernel
theorem dX11_radiusBut_124 : decode cX11_radiusBut 124 = .ok (.ifCond .eq 6, 3) := by decide +kernel
theorem dX11_radiusBut_127 : decode cX11_radiusBut 127 = .ok (.iinc 5 1, 3) := by decide +kernel
theorem dX11_radiusBut_130 : decode cX11_radiusBut 130 = .ok (.iinc 6 1, 3) := by decide +kernel
theorem dX11_radiusBut_133 : decode cX11_radiusBut 133 = .ok (.goto (-99), 3) := by decide +kernel
theorem dX11_radiusBut_136 : decode cX11_radiusBut 136 = .ok (.iload 5, 2) := by decide +kernel
theorem dX11_radiusBut_138 : decode cX11_radiusBut 138 = .ok (.iload_n 2, 1) := by decide +kernel
theorem dX11_radiusBut_139 : decode cX11_radiusBut 139 = .ok (.if_icmp .ne 16, 3) := by decide +kernel
theorem dX11_radiusBut_142 : decode cX11_radiusBut 142 = .ok (.aload_n 0, 1) := by decide +kernel
theorem dX11_radiusBut_143 : decode cX11_radiusBut 143 = .ok (.getfield 46, 3) := by decide +kernel
theorem dX11_radiusBut_146 : decode cX11_radiusBut 146 = .ok (.bipush 8, 2) := by decide +kernel
theorem dX11_radiusBut_148 : decode cX11_radiusBut 148 = .ok (.iload_n 1, 1) := by decide +kernel
theorem dX11_radiusBut_149 : decode cX11_radiusBut 149 = .ok (.imul, 1) := by decide +kernel
theorem dX11_radiusBut_150 : decode cX11_radiusBut 150 = .ok (.iload 4, 2) := by decide +kernel
theorem dX11_radiusBut_152 : decode cX11_radiusBut 152 = .ok (.iadd, 1) := by decide +kernel
theorem dX11_radiusBut_153 : decode cX11_radiusBut 153 = .ok (.baload, 1) := by decide +kernel
theorem dX11_radiusBut_154 : decode cX11_radiusBut 154 = .ok (.istore_n 3, 1) := by decide +kernel
theorem dX11_radiusBut_155 : decode cX11_radiusBut 155 = .ok (.iinc 4 1, 3) := by decide +kernel
theorem dX11_radiusBut_158 : decode cX11_radiusBut 158 = .ok (.goto (-153), 3) := by decide +kernel
theorem dX11_radiusBut_161 : decode cX11_radiusBut 161 = .ok (.iload_n 3, 1) := by decide +kernel
theorem dX11_radiusBut_162 : decode cX11_radiusBut 162 = .ok (.ireturn, 1) := by decide +kernel
theorem dX11_nearest_0 : decode cX11_nearest 0 = .ok (.aload_n 0, 1) := by decide +kernel
theorem dX11_nearest_1 : decode cX11_nearest 1 = .ok (.iconst 1, 1) := by decide +kernel
theorem dX11_nearest_2 : decode cX11_nearest 2 = .ok (.invokevirtual 141, 3) := by decide +kernel
theorem dX11_nearest_5 : decode cX11_nearest 5 = .ok (.ifCond .ne 5, 3) := by decide +kernel
theorem dX11_nearest_8 : decode cX11_nearest 8 = .ok (.iconst (-1), 1) := by decide +kernel
theorem dX11_nearest_9 : decode cX11_nearest 9 = .ok (.ireturn, 1) := by decide +kernel
theorem dX11_nearest_10 : decode cX11_nearest 10 = .ok (.aload_n 0, 1) := by decide +kernel
theorem dX11_nearest_11 : decode cX11_nearest 11 = .ok (.invokevirtual 145, 3) := by decide +kernel
theorem dX11_nearest_14 : decode cX11_nearest 14 = .ok (.iconst (-1), 1) := by decide +kernel
theorem dX11_nearest_15 : decode cX11_nearest 15 = .ok (.istore_n 2, 1) := by decide +kernel
theorem dX11_nearest_16 : decode cX11_nearest 16 = .ok (.iconst 0, 1) := by decide +kernel
theorem dX11_nearest_17 : decode cX11_nearest 17 = .ok (.istore_n 3, 1) := by decide +kernel
theorem dX11_nearest_18 : decode cX11_nearest 18 = .ok (.iconst 0, 1) := by decide +kernel
theorem dX11_nearest_19 : decode cX11_nearest 19 = .ok (.istore 4, 2) := by decide +kernel
theorem dX11_nearest_21 : decode cX11_nearest 21 = .ok (.iload 4, 2) := by decide +kernel
theorem dX11_nearest_23 : decode cX11_nearest 23 = .ok (.aload_n 0, 1) := by decide +kernel
theorem dX11_nearest_24 : decode cX11_nearest 24 = .ok (.invokevirtual 130, 3) := by decide +kernel
theorem dX11_nearest_27 : decode cX11_nearest 27 = .ok (.if_icmp .ge 63, 3) := by decide +kernel
theorem dX11_nearest_30 : decode cX11_nearest 30 = .ok (.aload_n 0, 1) := by decide +kernel
theorem dX11_nearest_31 : decode cX11_nearest 31 = .ok (.iload 4, 2) := by decide +kernel
theorem dX11_nearest_33 : decode cX11_nearest 33 = .ok (.invokevirtual 148, 3) := by decide +kernel
theorem dX11_nearest_36 : decode cX11_nearest 36 = .ok (.ifCond .ne 6, 3) := by decide +kernel
theorem dX11_nearest_39 : decode cX11_nearest 39 = .ok (.goto 45, 3) := by decide +kernel
theorem dX11_nearest_42 : decode cX11_nearest 42 = .ok (.iload_n 1, 1) := by decide +kernel
theorem dX11_nearest_43 : decode cX11_nearest 43 = .ok (.ifCond .ne 12, 3) := by decide +kernel
theorem dX11_nearest_46 : decode cX11_nearest 46 = .ok (.aload_n 0, 1) := by decide +kernel
theorem dX11_nearest_47 : decode cX11_nearest 47 = .ok (.iload 4, 2) := by decide +kernel
theorem dX11_nearest_49 : decode cX11_nearest 49 = .ok (.invokevirtual 151, 3) := by decide +kernel
theorem dX11_nearest_52 : decode cX11_nearest 52 = .ok (.goto 10, 3) := by decide +kernel
theorem dX11_nearest_55 : decode cX11_nearest 55 = .ok (.aload_n 0, 1) := by decide +kernel
theorem dX11_nearest_56 : decode cX11_nearest 56 = .ok (.iload 4, 2) := by decide +kernel
theorem dX11_nearest_58 : decode cX11_nearest 58 = .ok (.iload_n 1, 1) := by decide +kernel
theorem dX11_nearest_59 : decode cX11_nearest 59 = .ok (.invokevirtual 154, 3) := by decide +kernel
theorem dX11_nearest_62 : decode cX11_nearest 62 = .ok (.istore 5, 2) := by decide +kernel
theorem dX11_nearest_64 : decode cX11_nearest 64 = .ok (.iload_n 2, 1) := by decide +kernel
theorem dX11_nearest_65 : decode cX11_nearest 65 = .ok (.iconst (-1), 1) := by decide +kernel
theorem dX11_nearest_66 : decode cX11_nearest 66 = .ok (.if_icmp .eq 12, 3) := by decide +kernel
theorem dX11_nearest_69 : decode cX11_nearest 69 = .ok (.iload 5, 2) := by decide +kernel
theorem dX11_nearest_71 : decode cX11_nearest 71 = .ok (.iload_n 3, 1) := by decide +kernel
theorem dX11_nearest_72 : decode cX11_nearest 72 = .ok (.if_icmp .lt 6, 3) := by decide +kernel
theorem dX11_nearest_75 : decode cX11_nearest 75 = .ok (.goto 9, 3) := by decide +kernel
theorem dX11_nearest_78 : decode cX11_nearest 78 = .ok (.iload 4, 2) := by decide +kernel
theorem dX11_nearest_80 : decode cX11_nearest 80 = .ok (.istore_n 2, 1) := by decide +kernel
theorem dX11_nearest_81 : decode cX11_nearest 81 = .ok (.iload 5, 2) := by decide +kernel
theorem dX11_nearest_83 : decode cX11_nearest 83 = .ok (.istore_n 3, 1) := by decide +kernel
theorem dX11_nearest_84 : decode cX11_nearest 84 = .ok (.iinc 4 1, 3) := by decide +kernel
theorem dX11_nearest_87 : decode cX11_nearest 87 = .ok (.goto (-66), 3) := by decide +kernel
theorem dX11_nearest_90 : decode cX11_nearest 90 = .ok (.iload_n 2, 1) := by decide +kernel
theorem dX11_nearest_91 : decode cX11_nearest 91 = .ok (.ireturn, 1) := by decide +kernel
theorem dX11_letterOf_0 : decode cX11_letterOf 0 = .ok (.iload_n 1, 1) := by decide +kernel
theorem dX11_letterOf_1 : decode cX11_letterOf 1 = .ok (.iconst (-1), 1) := by decide +kernel
theorem dX11_letterOf_2 : decode cX11_letterOf 2 = .ok (.if_icmp .eq 15, 3) := by decide +kernel
theorem dX11_letterOf_5 : decode cX11_letterOf 5 = .ok (.iload_n 2, 1) := by decide +kernel
theorem dX11_letterOf_6 : decode cX11_letterOf 6 = .ok (.ifCond .lt 11, 3) := by decide +kernel
theorem dX11_letterOf_9 : decode cX11_letterOf 9 = .ok (.iload_n 2, 1) := by decide +kernel
theorem dX11_letterOf_10 : decode cX11_letterOf 10 = .ok (.aload_n 0, 1) := by decide +kernel
theorem dX11_letterOf_11 : decode cX11_letterOf 11 = .ok (.getfield 110, 3) := by decide +kernel
theorem dX11_letterOf_14 : decode cX11_letterOf 14 = .ok (.if_icmp .lt 5, 3) := by decide +kernel
theorem dX11_letterOf_17 : decode cX11_letterOf 17 = .ok (.iconst (-1), 1) := by decide +kernel
theorem dX11_letterOf_18 : decode cX11_letterOf 18 = .ok (.ireturn, 1) := by decide +kernel
theorem dX11_letterOf_19 : decode cX11_letterOf 19 = .ok (.aload_n 0, 1) := by decide +kernel
theorem dX11_letterOf_20 : decode cX11_letterOf 20 = .ok (.iload_n 1, 1) := by decide +kernel
theorem dX11_letterOf_21 : decode cX11_letterOf 21 = .ok (.aload_n 0, 1) := by decide +kernel
theorem dX11_letterOf_22 : decode cX11_letterOf 22 = .ok (.getfield 110, 3) := by decide +kernel
theorem dX11_letterOf_25 : decode cX11_letterOf 25 = .ok (.invokevirtual 134, 3) := by decide +kernel
theorem dX11_letterOf_28 : decode cX11_letterOf 28 = .ok (.aload_n 0, 1) := by decide +kernel
theorem dX11_letterOf_29 : decode cX11_letterOf 29 = .ok (.getfield 49, 3) := by decide +kernel
theorem dX11_letterOf_32 : decode cX11_letterOf 32 = .ok (.iload_n 2, 1) := by decide +kernel
theorem dX11_letterOf_33 : decode cX11_letterOf 33 = .ok (.baload, 1) := by decide +kernel
theorem dX11_letterOf_34 : decode cX11_letterOf 34 = .ok (.ireturn, 1) := by decide +kernel
theorem dX11_centre_0 : decode cX11_centre 0 = .ok (.aload_n 0, 1) := by decide +kernel
theorem dX11_centre_1 : decode cX11_centre 1 = .ok (.iconst 0, 1) := by decide +kernel
theorem dX11_centre_2 : decode cX11_centre 2 = .ok (.putfield 1, 3) := by decide +kernel
theorem dX11_centre_5 : decode cX11_centre 5 = .ok (.aload_n 0, 1) := by decide +kernel
theorem dX11_centre_6 : decode cX11_centre 6 = .ok (.iconst 0, 1) := by decide +kernel
theorem dX11_centre_7 : decode cX11_centre 7 = .ok (.invokevirtual 157, 3) := by decide +kernel
theorem dX11_centre_10 : decode cX11_centre 10 = .ok (.istore_n 1, 1) := by decide +kernel
theorem dX11_centre_11 : decode cX11_centre 11 = .ok (.iload_n 1, 1) := by decide +kernel
theorem dX11_centre_12 : decode cX11_centre 12 = .ok (.iconst (-1), 1) := by decide +kernel
theorem dX11_centre_13 : decode cX11_centre 13 = .ok (.if_icmp .ne 7, 3) := by decide +kernel
theorem dX11_centre_16 : decode cX11_centre 16 = .ok (.iconst (-1), 1) := by decide +kernel
theorem dX11_centre_17 : decode cX11_centre 17 = .ok (.goto 8, 3) := by decide +kernel
theorem dX11_centre_20 : decode cX11_centre 20 = .ok (.aload_n 0, 1) := by decide +kernel
theorem dX11_centre_21 : decode cX11_centre 21 = .ok (.iload_n 1, 1) := by decide +kernel
theorem dX11_centre_22 : decode cX11_centre 22 = .ok (.invokevirtual 151, 3) := by decide +kernel
theorem dX11_centre_25 : decode cX11_centre 25 = .ok (.ireturn, 1) := by decide +kernel
theorem dX11_centreAt_0 : decode cX11_centreAt 0 = .ok (.aload_n 0, 1) := by decide +kernel
theorem dX11_centreAt_1 : decode cX11_centreAt 1 = .ok (.iconst 0, 1) := by decide +kernel
theorem dX11_centreAt_2 : decode cX11_centreAt 2 = .ok (.putfield 1, 3) := by decide +kernel
theorem dX11_centreAt_5 : decode cX11_centreAt 5 = .ok (.aload_n 0, 1) := by decide +kernel
theorem dX11_centreAt_6 : decode cX11_centreAt 6 = .ok (.aload_n 0, 1) := by decide +kernel
theorem dX11_centreAt_7 : decode cX11_centreAt 7 = .ok (.iconst 0, 1) := by decide +kernel
theorem dX11_centreAt_8 : decode cX11_centreAt 8 = .ok (.invokevirtual 157, 3) := by decide +kernel
theorem dX11_centreAt_11 : decode cX11_centreAt 11 = .ok (.iload_n 1, 1) := by decide +kernel
theorem dX11_centreAt_12 : decode cX11_centreAt 12 = .ok (.invokevirtual 160, 3) := by decide +kernel
theorem dX11_centreAt_15 : decode cX11_centreAt 15 = .ok (.ireturn, 1) := by decide +kernel
theorem dX11_without_0 : decode cX11_without 0 = .ok (.aload_n 0, 1) := by decide +kernel
theorem dX11_without_1 : decode cX11_without 1 = .ok (.iconst 0, 1) := by decide +kernel
theorem dX11_without_2 : decode cX11_without 2 = .ok (.putfield 1, 3) := by decide +kernel
theorem dX11_without_5 : decode cX11_without 5 = .ok (.iload_n 1, 1) := by decide +kernel
theorem dX11_without_6 : decode cX11_without 6 = .ok (.iconst 0, 1) := by decide +kernel
theorem dX11_without_7 : decode cX11_without 7 = .ok (.bipush 7, 2) := by decide +kernel
theorem dX11_without_9 : decode cX11_without 9 = .ok (.invokestatic 81, 3) := by decide +kernel
theorem dX11_without_12 : decode cX11_without 12 = .ok (.ifCond .eq 11, 3) := by decide +kernel
theorem dX11_without_15 : decode cX11_without 15 = .ok (.aload_n 0, 1) := by decide +kernel
theorem dX11_without_16 : decode cX11_without 16 = .ok (.iload_n 1, 1) := by decide +kernel
theorem dX11_without_17 : decode cX11_without 17 = .ok (.invokevirtual 157, 3) := by decide +kernel
theorem dX11_without_20 : decode cX11_without 20 = .ok (.goto 4, 3) := by decide +kernel
theorem dX11_without_23 : decode cX11_without 23 = .ok (.iconst (-1), 1) := by decide +kernel
theorem dX11_without_24 : decode cX11_without 24 = .ok (.istore_n 2, 1) := by decide +kernel
theorem dX11_without_25 : decode cX11_without 25 = .ok (.iload_n 2, 1) := by decide +kernel
theorem dX11_without_26 : decode cX11_without 26 = .ok (.iconst (-1), 1) := by decide +kernel
theorem dX11_without_27 : decode cX11_without 27 = .ok (.if_icmp .ne 7, 3) := by decide +kernel
theorem dX11_without_30 : decode cX11_without 30 = .ok (.iconst (-1), 1) := by decide +kernel
theorem dX11_without_31 : decode cX11_without 31 = .ok (.goto 9, 3) := by decide +kernel
theorem dX11_without_34 : decode cX11_without 34 = .ok (.aload_n 0, 1) := by decide +kernel
theorem dX11_without_35 : decode cX11_without 35 = .ok (.iload_n 2, 1) := by decide +kernel
theorem dX11_without_36 : decode cX11_without 36 = .ok (.iload_n 1, 1) := by decide +kernel
theorem dX11_without_37 : decode cX11_without 37 = .ok (.invokevirtual 154, 3) := by decide +kernel
theorem dX11_without_40 : decode cX11_without 40 = .ok (.ireturn, 1) := by decide +kernel
theorem dX11_leftOut_0 : decode cX11_leftOut 0 = .ok (.aload_n 0, 1) := by decide +kernel
theorem dX11_leftOut_1 : decode cX11_leftOut 1 = .ok (.iconst 0, 1) := by decide +kernel
theorem dX11_leftOut_2 : decode cX11_leftOut 2 = .ok (.putfield 1, 3) := by decide +kernel
theorem dX11_leftOut_5 : decode cX11_leftOut 5 = .ok (.iload_n 1, 1) := by decide +kernel
theorem dX11_leftOut_6 : decode cX11_leftOut 6 = .ok (.iconst 0, 1) := by decide +kernel
theorem dX11_leftOut_7 : decode cX11_leftOut 7 = .ok (.bipush 7, 2) := by decide +kernel
theorem dX11_leftOut_9 : decode cX11_leftOut 9 = .ok (.invokestatic 81, 3) := by decide +kernel
theorem dX11_leftOut_12 : decode cX11_leftOut 12 = .ok (.ifCond .eq 11, 3) := by decide +kernel
theorem dX11_leftOut_15 : decode cX11_leftOut 15 = .ok (.aload_n 0, 1) := by decide +kernel
theorem dX11_leftOut_16 : decode cX11_leftOut 16 = .ok (.iload_n 1, 1) := by decide +kernel
theorem dX11_leftOut_17 : decode cX11_leftOut 17 = .ok (.invokevirtual 157, 3) := by decide +kernel
theorem dX11_leftOut_20 : decode cX11_leftOut 20 = .ok (.goto 4, 3) := by decide +kernel
theorem dX11_leftOut_23 : decode cX11_leftOut 23 = .ok (.iconst (-1), 1) := by decide +kernel
theorem dX11_leftOut_24 : decode cX11_leftOut 24 = .ok (.istore_n 2, 1) := by decide +kernel
theorem dX11_leftOut_25 : decode cX11_leftOut 25 = .ok (.iload_n 2, 1) := by decide +kernel
theorem dX11_leftOut_26 : decode cX11_leftOut 26 = .ok (.iconst (-1), 1) := by decide +kernel
theorem dX11_leftOut_27 : decode cX11_leftOut 27 = .ok (.if_icmp .ne 5, 3) := by decide +kernel
theorem dX11_leftOut_30 : decode cX11_leftOut 30 = .ok (.iconst (-1), 1) := by decide +kernel
theorem dX11_leftOut_31 : decode cX11_leftOut 31 = .ok (.ireturn, 1) := by decide +kernel
theorem dX11_leftOut_32 : decode cX11_leftOut 32 = .ok (.aload_n 0, 1) := by decide +kernel
theorem dX11_leftOut_33 : decode cX11_leftOut 33 = .ok (.iload_n 2, 1) := by decide +kernel
theorem dX11_leftOut_34 : decode cX11_leftOut 34 = .ok (.iload_n 1, 1) := by decide +kernel
theorem dX11_leftOut_35 : decode cX11_leftOut 35 = .ok (.invokevirtual 154, 3) := by decide +kernel
theorem dX11_leftOut_38 : decode cX11_leftOut 38 = .ok (.istore_n 3, 1) := by decide +kernel
theorem dX11_leftOut_39 : decode cX11_leftOut 39 = .ok (.iconst 0, 1) := by decide +kernel
theorem dX11_leftOut_40 : decode cX11_leftOut 40 = .ok (.istore 4, 2) := by decide +kernel
theorem dX11_leftOut_42 : decode cX11_leftOut 42 = .ok (.iconst 0, 1) := by decide +kernel
theorem dX11_leftOut_43 : decode cX11_leftOut 43 = .ok (.istore 5, 2) := by decide +kernel
theorem dX11_leftOut_45 : decode cX11_leftOut 45 = .ok (.iload 5, 2) := by decide +kernel
theorem dX11_leftOut_47 : decode cX11_leftOut 47 = .ok (.aload_n 0, 1) := by decide +kernel
theorem dX11_leftOut_48 : decode cX11_leftOut 48 = .ok (.getfield 85, 3) := by decide +kernel
theorem dX11_leftOut_51 : decode cX11_leftOut 51 = .ok (.if_icmp .ge 45, 3) := by decide +kernel
theorem dX11_leftOut_54 : decode cX11_leftOut 54 = .ok (.aload_n 0, 1) := by decide +kernel
theorem dX11_leftOut_55 : decode cX11_leftOut 55 = .ok (.getfield 27, 3) := by decide +kernel
theorem dX11_leftOut_58 : decode cX11_leftOut 58 = .ok (.iload 5, 2) := by decide +kernel
theorem dX11_leftOut_60 : decode cX11_leftOut 60 = .ok (.iaload, 1) := by decide +kernel
theorem dX11_leftOut_61 : decode cX11_leftOut 61 = .ok (.iconst 1, 1) := by decide +kernel
theorem dX11_leftOut_62 : decode cX11_leftOut 62 = .ok (.if_icmp .ne 28, 3) := by decide +kernel
theorem dX11_leftOut_65 : decode cX11_leftOut 65 = .ok (.aload_n 0, 1) := by decide +kernel
theorem dX11_leftOut_66 : decode cX11_leftOut 66 = .ok (.getfield 46, 3) := by decide +kernel
theorem dX11_leftOut_69 : decode cX11_leftOut 69 = .ok (.bipush 8, 2) := by decide +kernel
theorem dX11_leftOut_71 : decode cX11_leftOut 71 = .ok (.iload_n 2, 1) := by decide +kernel
theorem dX11_leftOut_72 : decode cX11_leftOut 72 = .ok (.imul, 1) := by decide +kernel
theorem dX11_leftOut_73 : decode cX11_leftOut 73 = .ok (.iload 5, 2) := by decide +kernel
theorem dX11_leftOut_75 : decode cX11_leftOut 75 = .ok (.iadd, 1) := by decide +kernel
theorem dX11_leftOut_76 : decode cX11_leftOut 76 = .ok (.baload, 1) := by decide +kernel
theorem dX11_leftOut_77 : decode cX11_leftOut 77 = .ok (.iload_n 3, 1) := by decide +kernel
theorem dX11_leftOut_78 : decode cX11_leftOut 78 = .ok (.if_icmp .le 12, 3) := by decide +kernel
theorem dX11_leftOut_81 : decode cX11_leftOut 81 = .ok (.iload 4, 2) := by decide +kernel
theorem dX11_leftOut_83 : decode cX11_leftOut 83 = .ok (.iconst 1, 1) := by decide +kernel
theorem dX11_leftOut_84 : decode cX11_leftOut 84 = .ok (.iload 5, 2) := by decide +kernel
theorem dX11_leftOut_86 : decode cX11_leftOut 86 = .ok (.ishl, 1) := by decide +kernel
theorem dX11_leftOut_87 : decode cX11_leftOut 87 = .ok (.ior, 1) := by decide +kernel
theorem dX11_leftOut_88 : decode cX11_leftOut 88 = .ok (.istore 4, 2) := by decide +kernel
theorem dX11_leftOut_90 : decode cX11_leftOut 90 = .ok (.iinc 5 1, 3) := by decide +kernel
theorem dX11_leftOut_93 : decode cX11_leftOut 93 = .ok (.goto (-48), 3) := by decide +kernel
theorem dX11_leftOut_96 : decode cX11_leftOut 96 = .ok (.iload 4, 2) := by decide +kernel
theorem dX11_leftOut_98 : decode cX11_leftOut 98 = .ok (.ireturn, 1) := by decide +kernel
theorem dX11_isAsked_0 : decode cX11_isAsked 0 = .ok (.iload_n 1, 1) := by decide +kernel
theorem dX11_isAsked_1 : decode cX11_isAsked 1 = .ok (.iconst 0, 1) := by decide +kernel
theorem dX11_isAsked_2 : decode cX11_isAsked 2 = .ok (.bipush 63, 2) := by decide +kernel
theorem dX11_isAsked_4 : decode cX11_isAsked 4 = .ok (.invokestatic 81, 3) := by decide +kernel
theorem dX11_isAsked_7 : decode cX11_isAsked 7 = .ok (.ifCond .eq 15, 3) := by decide +kernel
theorem dX11_isAsked_10 : decode cX11_isAsked 10 = .ok (.aload_n 0, 1) := by decide +kernel
theorem dX11_isAsked_11 : decode cX11_isAsked 11 = .ok (.iconst 1, 1) := by decide +kernel
theorem dX11_isAsked_12 : decode cX11_isAsked 12 = .ok (.invokevirtual 141, 3) := by decide +kernel
theorem dX11_isAsked_15 : decode cX11_isAsked 15 = .ok (.ifCond .le 7, 3) := by decide +kernel
theorem dX11_isAsked_18 : decode cX11_isAsked 18 = .ok (.iconst 1, 1) := by decide +kernel
theorem dX11_isAsked_19 : decode cX11_isAsked 19 = .ok (.goto 4, 3) := by decide +kernel
theorem dX11_isAsked_22 : decode cX11_isAsked 22 = .ok (.iconst 0, 1) := by decide +kernel
theorem dX11_isAsked_23 : decode cX11_isAsked 23 = .ok (.ireturn, 1) := by decide +kernel
theorem dX11_within__0 : decode cX11_within_ 0 = .ok (.aload_n 0, 1) := by decide +kernel
theorem dX11_within__1 : decode cX11_within_ 1 = .ok (.iconst 0, 1) := by decide +kernel
theorem dX11_within__2 : decode cX11_within_ 2 = .ok (.putfield 1, 3) := by decide +kernel
theorem dX11_within__5 : decode cX11_within_ 5 = .ok (.aload_n 0, 1) := by decide +kernel
theorem dX11_within__6 : decode cX11_within_ 6 = .ok (.iload_n 1, 1) := by decide +kernel
theorem dX11_within__7 : decode cX11_within_ 7 = .ok (.invokevirtual 163, 3) := by decide +kernel
theorem dX11_within__10 : decode cX11_within_ 10 = .ok (.ifCond .ne 5, 3) := by decide +kernel
theorem dX11_within__13 : decode cX11_within_ 13 = .ok (.iconst (-1), 1) := by decide +kernel
theorem dX11_within__14 : decode cX11_within_ 14 = .ok (.ireturn, 1) := by decide +kernel
theorem dX11_within__15 : decode cX11_within_ 15 = .ok (.aload_n 0, 1) := by decide +kernel
theorem dX11_within__16 : decode cX11_within_ 16 = .ok (.invokevirtual 145, 3) := by decide +kernel
theorem dX11_within__19 : decode cX11_within_ 19 = .ok (.iconst 0, 1) := by decide +kernel
theorem dX11_within__20 : decode cX11_within_ 20 = .ok (.istore_n 2, 1) := by decide +kernel
theorem dX11_within__21 : decode cX11_within_ 21 = .ok (.iconst 0, 1) := by decide +kernel
theorem dX11_within__22 : decode cX11_within_ 22 = .ok (.istore_n 3, 1) := by decide +kernel
theorem dX11_within__23 : decode cX11_within_ 23 = .ok (.iload_n 3, 1) := by decide +kernel
theorem dX11_within__24 : decode cX11_within_ 24 = .ok (.aload_n 0, 1) := by decide +kernel
theorem dX11_within__25 : decode cX11_within_ 25 = .ok (.invokevirtual 130, 3) := by decide +kernel
theorem dX11_within__28 : decode cX11_within_ 28 = .ok (.if_icmp .ge 29, 3) := by decide +kernel
theorem dX11_within__31 : decode cX11_within_ 31 = .ok (.aload_n 0, 1) := by decide +kernel
theorem dX11_within__32 : decode cX11_within_ 32 = .ok (.iload_n 3, 1) := by decide +kernel
theorem dX11_within__33 : decode cX11_within_ 33 = .ok (.invokevirtual 148, 3) := by decide +kernel
theorem dX11_within__36 : decode cX11_within_ 36 = .ok (.ifCond .eq 15, 3) := by decide +kernel
theorem dX11_within__39 : decode cX11_within_ 39 = .ok (.aload_n 0, 1) := by decide +kernel
theorem dX11_within__40 : decode cX11_within_ 40 = .ok (.iload_n 3, 1) := by decide +kernel
theorem dX11_within__41 : decode cX11_within_ 41 = .ok (.invokevirtual 151, 3) := by decide +kernel
theorem dX11_within__44 : decode cX11_within_ 44 = .ok (.iload_n 1, 1) := by decide +kernel
theorem dX11_within__45 : decode cX11_within_ 45 = .ok (.if_icmp .gt 6, 3) := by decide +kernel
theorem dX11_within__48 : decode cX11_within_ 48 = .ok (.iinc 2 1, 3) := by decide +kernel
theorem dX11_within__51 : decode cX11_within_ 51 = .ok (.iinc 3 1, 3) := by decide +kernel
theorem dX11_within__54 : decode cX11_within_ 54 = .ok (.goto (-31), 3) := by decide +kernel
theorem dX11_within__57 : decode cX11_within_ 57 = .ok (.iload_n 2, 1) := by decide +kernel
theorem dX11_within__58 : decode cX11_within_ 58 = .ok (.ireturn, 1) := by decide +kernel
theorem dX11_lettersAt_0 : decode cX11_lettersAt 0 = .ok (.aload_n 0, 1) := by decide +kernel
theorem dX11_lettersAt_1 : decode cX11_lettersAt 1 = .ok (.iconst 0, 1) := by decide +kernel
theorem dX11_lettersAt_2 : decode cX11_lettersAt 2 = .ok (.putfield 1, 3) := by decide +kernel
theorem dX11_lettersAt_5 : decode cX11_lettersAt 5 = .ok (.aload_n 0, 1) := by decide +kernel
theorem dX11_lettersAt_6 : decode cX11_lettersAt 6 = .ok (.iload_n 1, 1) := by decide +kernel
theorem dX11_lettersAt_7 : decode cX11_lettersAt 7 = .ok (.invokevirtual 163, 3) := by decide +kernel
theorem dX11_lettersAt_10 : decode cX11_lettersAt 10 = .ok (.ifCond .eq 15, 3) := by decide +kernel
theorem dX11_lettersAt_13 : decode cX11_lettersAt 13 = .ok (.iload_n 2, 1) := by decide +kernel
theorem dX11_lettersAt_14 : decode cX11_lettersAt 14 = .ok (.ifCond .lt 11, 3) := by decide +kernel
theorem dX11_lettersAt_17 : decode cX11_lettersAt 17 = .ok (.iload_n 2, 1) := by decide +kernel
theorem dX11_lettersAt_18 : decode cX11_lettersAt 18 = .ok (.aload_n 0, 1) := by decide +kernel
theorem dX11_lettersAt_19 : decode cX11_lettersAt 19 = .ok (.getfield 110, 3) := by decide +kernel
theorem dX11_lettersAt_22 : decode cX11_lettersAt 22 = .ok (.if_icmp .lt 5, 3) := by decide +kernel
theorem dX11_lettersAt_25 : decode cX11_lettersAt 25 = .ok (.iconst (-1), 1) := by decide +kernel
theorem dX11_lettersAt_26 : decode cX11_lettersAt 26 = .ok (.ireturn, 1) := by decide +kernel
theorem dX11_lettersAt_27 : decode cX11_lettersAt 27 = .ok (.aload_n 0, 1) := by decide +kernel
theorem dX11_lettersAt_28 : decode cX11_lettersAt 28 = .ok (.invokevirtual 145, 3) := by decide +kernel
theorem dX11_lettersAt_31 : decode cX11_lettersAt 31 = .ok (.iconst 0, 1) := by decide +kernel
theorem dX11_lettersAt_32 : decode cX11_lettersAt 32 = .ok (.istore_n 3, 1) := by decide +kernel
theorem dX11_lettersAt_33 : decode cX11_lettersAt 33 = .ok (.iconst 0, 1) := by decide +kernel
theorem dX11_lettersAt_34 : decode cX11_lettersAt 34 = .ok (.istore 4, 2) := by decide +kernel
theorem dX11_lettersAt_36 : decode cX11_lettersAt 36 = .ok (.iload 4, 2) := by decide +kernel
theorem dX11_lettersAt_38 : decode cX11_lettersAt 38 = .ok (.aload_n 0, 1) := by decide +kernel
theorem dX11_lettersAt_39 : decode cX11_lettersAt 39 = .ok (.invokevirtual 130, 3) := by decide +kernel
theorem dX11_lettersAt_42 : decode cX11_lettersAt 42 = .ok (.if_icmp .ge 40, 3) := by decide +kernel
theorem dX11_lettersAt_45 : decode cX11_lettersAt 45 = .ok (.aload_n 0, 1) := by decide +kernel
theorem dX11_lettersAt_46 : decode cX11_lettersAt 46 = .ok (.iload 4, 2) := by decide +kernel
theorem dX11_lettersAt_48 : decode cX11_lettersAt 48 = .ok (.invokevirtual 148, 3) := by decide +kernel
theorem dX11_lettersAt_51 : decode cX11_lettersAt 51 = .ok (.ifCond .eq 25, 3) := by decide +kernel
theorem dX11_lettersAt_54 : decode cX11_lettersAt 54 = .ok (.aload_n 0, 1) := by decide +kernel
theorem dX11_lettersAt_55 : decode cX11_lettersAt 55 = .ok (.iload 4, 2) := by decide +kernel
theorem dX11_lettersAt_57 : decode cX11_lettersAt 57 = .ok (.invokevirtual 151, 3) := by decide +kernel
theorem dX11_lettersAt_60 : decode cX11_lettersAt 60 = .ok (.iload_n 1, 1) := by decide +kernel
theorem dX11_lettersAt_61 : decode cX11_lettersAt 61 = .ok (.if_icmp .gt 15, 3) := by decide +kernel
theorem dX11_lettersAt_64 : decode cX11_lettersAt 64 = .ok (.iload_n 3, 1) := by decide +kernel
theorem dX11_lettersAt_65 : decode cX11_lettersAt 65 = .ok (.iconst 1, 1) := by decide +kernel
theorem dX11_lettersAt_66 : decode cX11_lettersAt 66 = .ok (.aload_n 0, 1) := by decide +kernel
theorem dX11_lettersAt_67 : decode cX11_lettersAt 67 = .ok (.iload 4, 2) := by decide +kernel
theorem dX11_lettersAt_69 : decode cX11_lettersAt 69 = .ok (.iload_n 2, 1) := by decide +kernel
theorem dX11_lettersAt_70 : decode cX11_lettersAt 70 = .ok (.invokevirtual 160, 3) := by decide +kernel
theorem dX11_lettersAt_73 : decode cX11_lettersAt 73 = .ok (.ishl, 1) := by decide +kernel
theorem dX11_lettersAt_74 : decode cX11_lettersAt 74 = .ok (.ior, 1) := by decide +kernel
theorem dX11_lettersAt_75 : decode cX11_lettersAt 75 = .ok (.istore_n 3, 1) := by decide +kernel
theorem dX11_lettersAt_76 : decode cX11_lettersAt 76 = .ok (.iinc 4 1, 3) := by decide +kernel
theorem dX11_lettersAt_79 : decode cX11_lettersAt 79 = .ok (.goto (-43), 3) := by decide +kernel
theorem dX11_lettersAt_82 : decode cX11_lettersAt 82 = .ok (.iload_n 3, 1) := by decide +kernel
theorem dX11_lettersAt_83 : decode cX11_lettersAt 83 = .ok (.ireturn, 1) := by decide +kernel
theorem dX11_nearBits_0 : decode cX11_nearBits 0 = .ok (.iconst 0, 1) := by decide +kernel
theorem dX11_nearBits_1 : decode cX11_nearBits 1 = .ok (.istore_n 1, 1) := by decide +kernel
theorem dX11_nearBits_2 : decode cX11_nearBits 2 = .ok (.iconst 0, 1) := by decide +kernel
theorem dX11_nearBits_3 : decode cX11_nearBits 3 = .ok (.istore_n 2, 1) := by decide +kernel
theorem dX11_nearBits_4 : decode cX11_nearBits 4 = .ok (.iload_n 2, 1) := by decide +kernel
theorem dX11_nearBits_5 : decode cX11_nearBits 5 = .ok (.aload_n 0, 1) := by decide +kernel
theorem dX11_nearBits_6 : decode cX11_nearBits 6 = .ok (.getfield 85, 3) := by decide +kernel
theorem dX11_nearBits_9 : decode cX11_nearBits 9 = .ok (.if_icmp .ge 25, 3) := by decide +kernel
theorem dX11_nearBits_12 : decode cX11_nearBits 12 = .ok (.aload_n 0, 1) := by decide +kernel
theorem dX11_nearBits_13 : decode cX11_nearBits 13 = .ok (.getfield 27, 3) := by decide +kernel
theorem dX11_nearBits_16 : decode cX11_nearBits 16 = .ok (.iload_n 2, 1) := by decide +kernel
theorem dX11_nearBits_17 : decode cX11_nearBits 17 = .ok (.iaload, 1) := by decide +kernel
theorem dX11_nearBits_18 : decode cX11_nearBits 18 = .ok (.iconst 1, 1) := by decide +kernel
theorem dX11_nearBits_19 : decode cX11_nearBits 19 = .ok (.if_icmp .ne 9, 3) := by decide +kernel
theorem dX11_nearBits_22 : decode cX11_nearBits 22 = .ok (.iload_n 1, 1) := by decide +kernel
theorem dX11_nearBits_23 : decode cX11_nearBits 23 = .ok (.iconst 1, 1) := by decide +kernel
theorem dX11_nearBits_24 : decode cX11_nearBits 24 = .ok (.iload_n 2, 1) := by decide +kernel
theorem dX11_nearBits_25 : decode cX11_nearBits 25 = .ok (.ishl, 1) := by decide +kernel
theorem dX11_nearBits_26 : decode cX11_nearBits 26 = .ok (.ior, 1) := by decide +kernel
theorem dX11_nearBits_27 : decode cX11_nearBits 27 = .ok (.istore_n 1, 1) := by decide +kernel
theorem dX11_nearBits_28 : decode cX11_nearBits 28 = .ok (.iinc 2 1, 3) := by decide +kernel
theorem dX11_nearBits_31 : decode cX11_nearBits 31 = .ok (.goto (-27), 3) := by decide +kernel
theorem dX11_nearBits_34 : decode cX11_nearBits 34 = .ok (.iload_n 1, 1) := by decide +kernel
theorem dX11_nearBits_35 : decode cX11_nearBits 35 = .ok (.ireturn, 1) := by decide +kernel
theorem dX11_holds_0 : decode cX11_holds 0 = .ok (.aload_n 0, 1) := by decide +kernel
theorem dX11_holds_1 : decode cX11_holds 1 = .ok (.invokevirtual 145, 3) := by decide +kernel
theorem dX11_holds_4 : decode cX11_holds 4 = .ok (.iconst 0, 1) := by decide +kernel
theorem dX11_holds_5 : decode cX11_holds 5 = .ok (.istore_n 2, 1) := by decide +kernel
theorem dX11_holds_6 : decode cX11_holds 6 = .ok (.iload_n 2, 1) := by decide +kernel
theorem dX11_holds_7 : decode cX11_holds 7 = .ok (.sipush 256, 3) := by decide +kernel
theorem dX11_holds_10 : decode cX11_holds 10 = .ok (.if_icmp .ge 16, 3) := by decide +kernel
theorem dX11_holds_13 : decode cX11_holds 13 = .ok (.aload_n 0, 1) := by decide +kernel
theorem dX11_holds_14 : decode cX11_holds 14 = .ok (.getfield 52, 3) := by decide +kernel
theorem dX11_holds_17 : decode cX11_holds 17 = .ok (.iload_n 2, 1) := by decide +kernel
theorem dX11_holds_18 : decode cX11_holds 18 = .ok (.iconst 0, 1) := by decide +kernel
theorem dX11_holds_19 : decode cX11_holds 19 = .ok (.bastore, 1) := by decide +kernel
theorem dX11_holds_20 : decode cX11_holds 20 = .ok (.iinc 2 1, 3) := by decide +kernel
theorem dX11_holds_23 : decode cX11_holds 23 = .ok (.goto (-17), 3) := by decide +kernel
theorem dX11_holds_26 : decode cX11_holds 26 = .ok (.iconst 0, 1) := by decide +kernel
theorem dX11_holds_27 : decode cX11_holds 27 = .ok (.istore_n 2, 1) := by decide +kernel
theorem dX11_holds_28 : decode cX11_holds 28 = .ok (.iload_n 2, 1) := by decide +kernel
theorem dX11_holds_29 : decode cX11_holds 29 = .ok (.aload_n 0, 1) := by decide +kernel
theorem dX11_holds_30 : decode cX11_holds 30 = .ok (.invokevirtual 130, 3) := by decide +kernel
theorem dX11_holds_33 : decode cX11_holds 33 = .ok (.if_icmp .ge 81, 3) := by decide +kernel
theorem dX11_holds_36 : decode cX11_holds 36 = .ok (.aload_n 0, 1) := by decide +kernel
theorem dX11_holds_37 : decode cX11_holds 37 = .ok (.iload_n 2, 1) := by decide +kernel
theorem dX11_holds_38 : decode cX11_holds 38 = .ok (.invokevirtual 148, 3) := by decide +kernel
theorem dX11_holds_41 : decode cX11_holds 41 = .ok (.ifCond .ne 6, 3) := by decide +kernel
theorem dX11_holds_44 : decode cX11_holds 44 = .ok (.goto 64, 3) := by decide +kernel
theorem dX11_holds_47 : decode cX11_holds 47 = .ok (.iconst 0, 1) := by decide +kernel
theorem dX11_holds_48 : decode cX11_holds 48 = .ok (.istore_n 3, 1) := by decide +kernel
theorem dX11_holds_49 : decode cX11_holds 49 = .ok (.iconst 0, 1) := by decide +kernel
theorem dX11_holds_50 : decode cX11_holds 50 = .ok (.istore 4, 2) := by decide +kernel
theorem dX11_holds_52 : decode cX11_holds 52 = .ok (.iload 4, 2) := by decide +kernel
theorem dX11_holds_54 : decode cX11_holds 54 = .ok (.aload_n 0, 1) := by decide +kernel
theorem dX11_holds_55 : decode cX11_holds 55 = .ok (.getfield 85, 3) := by decide +kernel
theorem dX11_holds_58 : decode cX11_holds 58 = .ok (.if_icmp .ge 43, 3) := by decide +kernel
theorem dX11_holds_61 : decode cX11_holds 61 = .ok (.aload_n 0, 1) := by decide +kernel
theorem dX11_holds_62 : decode cX11_holds 62 = .ok (.getfield 27, 3) := by decide +kernel
theorem dX11_holds_65 : decode cX11_holds 65 = .ok (.iload 4, 2) := by decide +kernel
theorem dX11_holds_67 : decode cX11_holds 67 = .ok (.iaload, 1) := by decide +kernel
theorem dX11_holds_68 : decode cX11_holds 68 = .ok (.iconst 1, 1) := by decide +kernel
theorem dX11_holds_69 : decode cX11_holds 69 = .ok (.if_icmp .ne 26, 3) := by decide +kernel
theorem dX11_holds_72 : decode cX11_holds 72 = .ok (.aload_n 0, 1) := by decide +kernel
theorem dX11_holds_73 : decode cX11_holds 73 = .ok (.getfield 46, 3) := by decide +kernel
theorem dX11_holds_76 : decode cX11_holds 76 = .ok (.bipush 8, 2) := by decide +kernel
theorem dX11_holds_78 : decode cX11_holds 78 = .ok (.iload_n 2, 1) := by decide +kernel
theorem dX11_holds_79 : decode cX11_holds 79 = .ok (.imul, 1) := by decide +kernel
theorem dX11_holds_80 : decode cX11_holds 80 = .ok (.iload 4, 2) := by decide +kernel
theorem dX11_holds_82 : decode cX11_holds 82 = .ok (.iadd, 1) := by decide +kernel
theorem dX11_holds_83 : decode cX11_holds 83 = .ok (.baload, 1) := by decide +kernel
theorem dX11_holds_84 : decode cX11_holds 84 = .ok (.iload_n 1, 1) := by decide +kernel
theorem dX11_holds_85 : decode cX11_holds 85 = .ok (.if_icmp .gt 10, 3) := by decide +kernel
theorem dX11_holds_88 : decode cX11_holds 88 = .ok (.iload_n 3, 1) := by decide +kernel
theorem dX11_holds_89 : decode cX11_holds 89 = .ok (.iconst 1, 1) := by decide +kernel
theorem dX11_holds_90 : decode cX11_holds 90 = .ok (.iload 4, 2) := by decide +kernel
theorem dX11_holds_92 : decode cX11_holds 92 = .ok (.ishl, 1) := by decide +kernel
theorem dX11_holds_93 : decode cX11_holds 93 = .ok (.ior, 1) := by decide +kernel
theorem dX11_holds_94 : decode cX11_holds 94 = .ok (.istore_n 3, 1) := by decide +kernel
theorem dX11_holds_95 : decode cX11_holds 95 = .ok (.iinc 4 1, 3) := by decide +kernel
theorem dX11_holds_98 : decode cX11_holds 98 = .ok (.goto (-46), 3) := by decide +kernel
theorem dX11_holds_101 : decode cX11_holds 101 = .ok (.aload_n 0, 1) := by decide +kernel
theorem dX11_holds_102 : decode cX11_holds 102 = .ok (.getfield 52, 3) := by decide +kernel
theorem dX11_holds_105 : decode cX11_holds 105 = .ok (.iload_n 3, 1) := by decide +kernel
theorem dX11_holds_106 : decode cX11_holds 106 = .ok (.iconst 1, 1) := by decide +kernel
theorem dX11_holds_107 : decode cX11_holds 107 = .ok (.bastore, 1) := by decide +kernel
theorem dX11_holds_108 : decode cX11_holds 108 = .ok (.iinc 2 1, 3) := by decide +kernel
theorem dX11_holds_111 : decode cX11_holds 111 = .ok (.goto (-83), 3) := by decide +kernel
theorem dX11_holds_114 : decode cX11_holds 114 = .ok (.iconst 0, 1) := by decide +kernel
theorem dX11_holds_115 : decode cX11_holds 115 = .ok (.istore_n 2, 1) := by decide +kernel
theorem dX11_holds_116 : decode cX11_holds 116 = .ok (.iload_n 2, 1) := by decide +kernel
theorem dX11_holds_117 : decode cX11_holds 117 = .ok (.aload_n 0, 1) := by decide +kernel
theorem dX11_holds_118 : decode cX11_holds 118 = .ok (.getfield 85, 3) := by decide +kernel
theorem dX11_holds_121 : decode cX11_holds 121 = .ok (.if_icmp .ge 55, 3) := by decide +kernel
theorem dX11_holds_124 : decode cX11_holds 124 = .ok (.iconst 0, 1) := by decide +kernel
theorem dX11_holds_125 : decode cX11_holds 125 = .ok (.istore_n 3, 1) := by decide +kernel
theorem dX11_holds_126 : decode cX11_holds 126 = .ok (.iload_n 3, 1) := by decide +kernel
theorem dX11_holds_127 : decode cX11_holds 127 = .ok (.sipush 256, 3) := by decide +kernel
theorem dX11_holds_130 : decode cX11_holds 130 = .ok (.if_icmp .ge 40, 3) := by decide +kernel
theorem dX11_holds_133 : decode cX11_holds 133 = .ok (.iload_n 3, 1) := by decide +kernel
theorem dX11_holds_134 : decode cX11_holds 134 = .ok (.iload_n 2, 1) := by decide +kernel
theorem dX11_holds_135 : decode cX11_holds 135 = .ok (.ishr, 1) := by decide +kernel
theorem dX11_holds_136 : decode cX11_holds 136 = .ok (.iconst 1, 1) := by decide +kernel
theorem dX11_holds_137 : decode cX11_holds 137 = .ok (.iand, 1) := by decide +kernel
theorem dX11_holds_138 : decode cX11_holds 138 = .ok (.iconst 1, 1) := by decide +kernel
theorem dX11_holds_139 : decode cX11_holds 139 = .ok (.if_icmp .ne 25, 3) := by decide +kernel
theorem dX11_holds_142 : decode cX11_holds 142 = .ok (.aload_n 0, 1) := by decide +kernel
theorem dX11_holds_143 : decode cX11_holds 143 = .ok (.getfield 52, 3) := by decide +kernel
theorem dX11_holds_146 : decode cX11_holds 146 = .ok (.iload_n 3, 1) := by decide +kernel
theorem dX11_holds_147 : decode cX11_holds 147 = .ok (.baload, 1) := by decide +kernel
theorem dX11_holds_148 : decode cX11_holds 148 = .ok (.ifCond .eq 16, 3) := by decide +kernel
theorem dX11_holds_151 : decode cX11_holds 151 = .ok (.aload_n 0, 1) := by decide +kernel
theorem dX11_holds_152 : decode cX11_holds 152 = .ok (.getfield 52, 3) := by decide +kernel
theorem dX11_holds_155 : decode cX11_holds 155 = .ok (.iload_n 3, 1) := by decide +kernel
theorem dX11_holds_156 : decode cX11_holds 156 = .ok (.iconst 1, 1) := by decide +kernel
theorem dX11_holds_157 : decode cX11_holds 157 = .ok (.iload_n 2, 1) := by decide +kernel
theorem dX11_holds_158 : decode cX11_holds 158 = .ok (.ishl, 1) := by decide +kernel
theorem dX11_holds_159 : decode cX11_holds 159 = .ok (.iconst (-1), 1) := by decide +kernel
theorem dX11_holds_160 : decode cX11_holds 160 = .ok (.ixor, 1) := by decide +kernel
theorem dX11_holds_161 : decode cX11_holds 161 = .ok (.iand, 1) := by decide +kernel
theorem dX11_holds_162 : decode cX11_holds 162 = .ok (.iconst 1, 1) := by decide +kernel
theorem dX11_holds_163 : decode cX11_holds 163 = .ok (.bastore, 1) := by decide +kernel
theorem dX11_holds_164 : decode cX11_holds 164 = .ok (.iinc 3 1, 3) := by decide +kernel
theorem dX11_holds_167 : decode cX11_holds 167 = .ok (.goto (-41), 3) := by decide +kernel
theorem dX11_holds_170 : decode cX11_holds 170 = .ok (.iinc 2 1, 3) := by decide +kernel
theorem dX11_holds_173 : decode cX11_holds 173 = .ok (.goto (-57), 3) := by decide +kernel
theorem dX11_holds_176 : decode cX11_holds 176 = .ok (.return_, 1) := by decide +kernel
theorem dX11_size_0 : decode cX11_size 0 = .ok (.iconst 0, 1) := by decide +kernel
theorem dX11_size_1 : decode cX11_size 1 = .ok (.istore_n 1, 1) := by decide +kernel
theorem dX11_size_2 : decode cX11_size 2 = .ok (.iconst 0, 1) := by decide +kernel
theorem dX11_size_3 : decode cX11_size 3 = .ok (.istore_n 2, 1) := by decide +kernel
theorem dX11_size_4 : decode cX11_size 4 = .ok (.iload_n 2, 1) := by decide +kernel
theorem dX11_size_5 : decode cX11_size 5 = .ok (.bipush 8, 2) := by decide +kernel
theorem dX11_size_7 : decode cX11_size 7 = .ok (.if_icmp .ge 17, 3) := by decide +kernel
theorem dX11_size_10 : decode cX11_size 10 = .ok (.iload_n 1, 1) := by decide +kernel
theorem dX11_size_11 : decode cX11_size 11 = .ok (.iload_n 0, 1) := by decide +kernel
theorem dX11_size_12 : decode cX11_size 12 = .ok (.iload_n 2, 1) := by decide +kernel
theorem dX11_size_13 : decode cX11_size 13 = .ok (.ishr, 1) := by decide +kernel
theorem dX11_size_14 : decode cX11_size 14 = .ok (.iconst 1, 1) := by decide +kernel
theorem dX11_size_15 : decode cX11_size 15 = .ok (.iand, 1) := by decide +kernel
theorem dX11_size_16 : decode cX11_size 16 = .ok (.iadd, 1) := by decide +kernel
theorem dX11_size_17 : decode cX11_size 17 = .ok (.istore_n 1, 1) := by decide +kernel
theorem dX11_size_18 : decode cX11_size 18 = .ok (.iinc 2 1, 3) := by decide +kernel
theorem dX11_size_21 : decode cX11_size 21 = .ok (.goto (-17), 3) := by decide +kernel
theorem dX11_size_24 : decode cX11_size 24 = .ok (.iload_n 1, 1) := by decide +kernel
theorem dX11_size_25 : decode cX11_size 25 = .ok (.ireturn, 1) := by decide +kernel
theorem dX11_coreOf_0 : decode cX11_coreOf 0 = .ok (.aload_n 0, 1) := by decide +kernel
theorem dX11_coreOf_1 : decode cX11_coreOf 1 = .ok (.iload_n 1, 1) := by decide +kernel
theorem dX11_coreOf_2 : decode cX11_coreOf 2 = .ok (.invokevirtual 166, 3) := by decide +kernel
theorem dX11_coreOf_5 : decode cX11_coreOf 5 = .ok (.aload_n 0, 1) := by decide +kernel
theorem dX11_coreOf_6 : decode cX11_coreOf 6 = .ok (.invokevirtual 170, 3) := by decide +kernel
theorem dX11_coreOf_9 : decode cX11_coreOf 9 = .ok (.istore_n 2, 1) := by decide +kernel
theorem dX11_coreOf_10 : decode cX11_coreOf 10 = .ok (.iconst 0, 1) := by decide +kernel
theorem dX11_coreOf_11 : decode cX11_coreOf 11 = .ok (.istore_n 3, 1) := by decide +kernel
theorem dX11_coreOf_12 : decode cX11_coreOf 12 = .ok (.iconst 1, 1) := by decide +kernel
theorem dX11_coreOf_13 : decode cX11_coreOf 13 = .ok (.istore 4, 2) := by decide +kernel
theorem dX11_coreOf_15 : decode cX11_coreOf 15 = .ok (.iload 4, 2) := by decide +kernel
theorem dX11_coreOf_17 : decode cX11_coreOf 17 = .ok (.sipush 256, 3) := by decide +kernel
theorem dX11_coreOf_20 : decode cX11_coreOf 20 = .ok (.if_icmp .ge 50, 3) := by decide +kernel
theorem dX11_coreOf_23 : decode cX11_coreOf 23 = .ok (.iload 4, 2) := by decide +kernel
theorem dX11_coreOf_25 : decode cX11_coreOf 25 = .ok (.iload_n 2, 1) := by decide +kernel
theorem dX11_coreOf_26 : decode cX11_coreOf 26 = .ok (.iconst (-1), 1) := by decide +kernel
theorem dX11_coreOf_27 : decode cX11_coreOf 27 = .ok (.ixor, 1) := by decide +kernel
theorem dX11_coreOf_28 : decode cX11_coreOf 28 = .ok (.iand, 1) := by decide +kernel
theorem dX11_coreOf_29 : decode cX11_coreOf 29 = .ok (.ifCond .ne 35, 3) := by decide +kernel
theorem dX11_coreOf_32 : decode cX11_coreOf 32 = .ok (.aload_n 0, 1) := by decide +kernel
theorem dX11_coreOf_33 : decode cX11_coreOf 33 = .ok (.getfield 52, 3) := by decide +kernel
theorem dX11_coreOf_36 : decode cX11_coreOf 36 = .ok (.iload 4, 2) := by decide +kernel
theorem dX11_coreOf_38 : decode cX11_coreOf 38 = .ok (.baload, 1) := by decide +kernel
theorem dX11_coreOf_39 : decode cX11_coreOf 39 = .ok (.ifCond .eq 6, 3) := by decide +kernel
theorem dX11_coreOf_42 : decode cX11_coreOf 42 = .ok (.goto 22, 3) := by decide +kernel
theorem dX11_coreOf_45 : decode cX11_coreOf 45 = .ok (.iload_n 3, 1) := by decide +kernel
theorem dX11_coreOf_46 : decode cX11_coreOf 46 = .ok (.ifCond .eq 15, 3) := by decide +kernel
theorem dX11_coreOf_49 : decode cX11_coreOf 49 = .ok (.iload 4, 2) := by decide +kernel
theorem dX11_coreOf_51 : decode cX11_coreOf 51 = .ok (.invokestatic 173, 3) := by decide +kernel
theorem dX11_coreOf_54 : decode cX11_coreOf 54 = .ok (.iload_n 3, 1) := by decide +kernel
theorem dX11_coreOf_55 : decode cX11_coreOf 55 = .ok (.invokestatic 173, 3) := by decide +kernel
theorem dX11_coreOf_58 : decode cX11_coreOf 58 = .ok (.if_icmp .ge 6, 3) := by decide +kernel
theorem dX11_coreOf_61 : decode cX11_coreOf 61 = .ok (.iload 4, 2) := by decide +kernel
theorem dX11_coreOf_63 : decode cX11_coreOf 63 = .ok (.istore_n 3, 1) := by decide +kernel
theorem dX11_coreOf_64 : decode cX11_coreOf 64 = .ok (.iinc 4 1, 3) := by decide +kernel
theorem dX11_coreOf_67 : decode cX11_coreOf 67 = .ok (.goto (-52), 3) := by decide +kernel
theorem dX11_coreOf_70 : decode cX11_coreOf 70 = .ok (.iload_n 3, 1) := by decide +kernel
theorem dX11_coreOf_71 : decode cX11_coreOf 71 = .ok (.ireturn, 1) := by decide +kernel
theorem dX11_core_0 : decode cX11_core 0 = .ok (.aload_n 0, 1) := by decide +kernel
theorem dX11_core_1 : decode cX11_core 1 = .ok (.iconst 0, 1) := by decide +kernel
theorem dX11_core_2 : decode cX11_core 2 = .ok (.putfield 1, 3) := by decide +kernel
theorem dX11_core_5 : decode cX11_core 5 = .ok (.aload_n 0, 1) := by decide +kernel
theorem dX11_core_6 : decode cX11_core 6 = .ok (.iload_n 1, 1) := by decide +kernel
theorem dX11_core_7 : decode cX11_core 7 = .ok (.invokevirtual 163, 3) := by decide +kernel
theorem dX11_core_10 : decode cX11_core 10 = .ok (.ifCond .eq 14, 3) := by decide +kernel
theorem dX11_core_13 : decode cX11_core 13 = .ok (.aload_n 0, 1) := by decide +kernel
theorem dX11_core_14 : decode cX11_core 14 = .ok (.iload_n 1, 1) := by decide +kernel
theorem dX11_core_15 : decode cX11_core 15 = .ok (.invokevirtual 176, 3) := by decide +kernel
theorem dX11_core_18 : decode cX11_core 18 = .ok (.invokestatic 173, 3) := by decide +kernel
theorem dX11_core_21 : decode cX11_core 21 = .ok (.goto 4, 3) := by decide +kernel
theorem dX11_core_24 : decode cX11_core 24 = .ok (.iconst (-1), 1) := by decide +kernel
theorem dX11_core_25 : decode cX11_core 25 = .ok (.ireturn, 1) := by decide +kernel
theorem dX11_coreSet_0 : decode cX11_coreSet 0 = .ok (.aload_n 0, 1) := by decide +kernel
theorem dX11_coreSet_1 : decode cX11_coreSet 1 = .ok (.iconst 0, 1) := by decide +kernel
theorem dX11_coreSet_2 : decode cX11_coreSet 2 = .ok (.putfield 1, 3) := by decide +kernel
theorem dX11_coreSet_5 : decode cX11_coreSet 5 = .ok (.aload_n 0, 1) := by decide +kernel
theorem dX11_coreSet_6 : decode cX11_coreSet 6 = .ok (.iload_n 1, 1) := by decide +kernel
theorem dX11_coreSet_7 : decode cX11_coreSet 7 = .ok (.invokevirtual 163, 3) := by decide +kernel
theorem dX11_coreSet_10 : decode cX11_coreSet 10 = .ok (.ifCond .eq 11, 3) := by decide +kernel
theorem dX11_coreSet_13 : decode cX11_coreSet 13 = .ok (.aload_n 0, 1) := by decide +kernel
theorem dX11_coreSet_14 : decode cX11_coreSet 14 = .ok (.iload_n 1, 1) := by decide +kernel
theorem dX11_coreSet_15 : decode cX11_coreSet 15 = .ok (.invokevirtual 176, 3) := by decide +kernel
theorem dX11_coreSet_18 : decode cX11_coreSet 18 = .ok (.goto 4, 3) := by decide +kernel
theorem dX11_coreSet_21 : decode cX11_coreSet 21 = .ok (.iconst (-1), 1) := by decide +kernel
theorem dX11_coreSet_22 : decode cX11_coreSet 22 = .ok (.ireturn, 1) := by decide +kernel
theorem dX11_coverOf_0 : decode cX11_coverOf 0 = .ok (.aload_n 0, 1) := by decide +kernel
theorem dX11_coverOf_1 : decode cX11_coverOf 1 = .ok (.iload_n 1, 1) := by decide +kernel
theorem dX11_coverOf_2 : decode cX11_coverOf 2 = .ok (.invokevirtual 166, 3) := by decide +kernel
theorem dX11_coverOf_5 : decode cX11_coverOf 5 = .ok (.aload_n 0, 1) := by decide +kernel
theorem dX11_coverOf_6 : decode cX11_coverOf 6 = .ok (.invokevirtual 170, 3) := by decide +kernel
theorem dX11_coverOf_9 : decode cX11_coverOf 9 = .ok (.istore_n 2, 1) := by decide +kernel
theorem dX11_coverOf_10 : decode cX11_coverOf 10 = .ok (.aload_n 0, 1) := by decide +kernel
theorem dX11_coverOf_11 : decode cX11_coverOf 11 = .ok (.getfield 56, 3) := by decide +kernel
theorem dX11_coverOf_14 : decode cX11_coverOf 14 = .ok (.iconst 0, 1) := by decide +kernel
theorem dX11_coverOf_15 : decode cX11_coverOf 15 = .ok (.iconst 0, 1) := by decide +kernel
theorem dX11_coverOf_16 : decode cX11_coverOf 16 = .ok (.iastore, 1) := by decide +kernel
theorem dX11_coverOf_17 : decode cX11_coverOf 17 = .ok (.iconst 1, 1) := by decide +kernel
theorem dX11_coverOf_18 : decode cX11_coverOf 18 = .ok (.istore_n 3, 1) := by decide +kernel
theorem dX11_coverOf_19 : decode cX11_coverOf 19 = .ok (.iload_n 3, 1) := by decide +kernel
theorem dX11_coverOf_20 : decode cX11_coverOf 20 = .ok (.sipush 256, 3) := by decide +kernel
theorem dX11_coverOf_23 : decode cX11_coverOf 23 = .ok (.if_icmp .ge 85, 3) := by decide +kernel
theorem dX11_coverOf_26 : decode cX11_coverOf 26 = .ok (.aload_n 0, 1) := by decide +kernel
theorem dX11_coverOf_27 : decode cX11_coverOf 27 = .ok (.getfield 56, 3) := by decide +kernel
theorem dX11_coverOf_30 : decode cX11_coverOf 30 = .ok (.iload_n 3, 1) := by decide +kernel
theorem dX11_coverOf_31 : decode cX11_coverOf 31 = .ok (.bipush 9, 2) := by decide +kernel
theorem dX11_coverOf_33 : decode cX11_coverOf 33 = .ok (.iastore, 1) := by decide +kernel
theorem dX11_coverOf_34 : decode cX11_coverOf 34 = .ok (.iload_n 3, 1) := by decide +kernel
theorem dX11_coverOf_35 : decode cX11_coverOf 35 = .ok (.iload_n 2, 1) := by decide +kernel
