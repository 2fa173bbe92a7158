theorem dX8_init_66 : decode cX8_init 66 = .ok (.putfield 38, 3) := by decide +kernel
theorem dX8_init_69 : decode cX8_init 69 = .ok (.return_, 1) := by decide +kernel
theorem dX8_letterAt_0 : decode cX8_letterAt 0 = .ok (.iload_n 0, 1) := by decide +kernel
theorem dX8_letterAt_1 : decode cX8_letterAt 1 = .ok (.iconst 2, 1) := by decide +kernel
theorem dX8_letterAt_2 : decode cX8_letterAt 2 = .ok (.iload_n 1, 1) := by decide +kernel
theorem dX8_letterAt_3 : decode cX8_letterAt 3 = .ok (.iconst 1, 1) := by decide +kernel
theorem dX8_letterAt_4 : decode cX8_letterAt 4 = .ok (.isub, 1) := by decide +kernel
theorem dX8_letterAt_5 : decode cX8_letterAt 5 = .ok (.iload_n 2, 1) := by decide +kernel
theorem dX8_letterAt_6 : decode cX8_letterAt 6 = .ok (.isub, 1) := by decide +kernel
theorem dX8_letterAt_7 : decode cX8_letterAt 7 = .ok (.imul, 1) := by decide +kernel
theorem dX8_letterAt_8 : decode cX8_letterAt 8 = .ok (.ishr, 1) := by decide +kernel
theorem dX8_letterAt_9 : decode cX8_letterAt 9 = .ok (.iconst 3, 1) := by decide +kernel
theorem dX8_letterAt_10 : decode cX8_letterAt 10 = .ok (.iand, 1) := by decide +kernel
theorem dX8_letterAt_11 : decode cX8_letterAt 11 = .ok (.ireturn, 1) := by decide +kernel
theorem dX8_spotAt_0 : decode cX8_spotAt 0 = .ok (.iload_n 0, 1) := by decide +kernel
theorem dX8_spotAt_1 : decode cX8_spotAt 1 = .ok (.iconst 4, 1) := by decide +kernel
theorem dX8_spotAt_2 : decode cX8_spotAt 2 = .ok (.iload_n 1, 1) := by decide +kernel
theorem dX8_spotAt_3 : decode cX8_spotAt 3 = .ok (.imul, 1) := by decide +kernel
theorem dX8_spotAt_4 : decode cX8_spotAt 4 = .ok (.ishr, 1) := by decide +kernel
theorem dX8_spotAt_5 : decode cX8_spotAt 5 = .ok (.bipush 15, 2) := by decide +kernel
theorem dX8_spotAt_7 : decode cX8_spotAt 7 = .ok (.iand, 1) := by decide +kernel
theorem dX8_spotAt_8 : decode cX8_spotAt 8 = .ok (.ireturn, 1) := by decide +kernel
theorem dX8_begin_0 : decode cX8_begin 0 = .ok (.aload_n 0, 1) := by decide +kernel
theorem dX8_begin_1 : decode cX8_begin 1 = .ok (.iload_n 1, 1) := by decide +kernel
theorem dX8_begin_2 : decode cX8_begin 2 = .ok (.putfield 9, 3) := by decide +kernel
theorem dX8_begin_5 : decode cX8_begin 5 = .ok (.aload_n 0, 1) := by decide +kernel
theorem dX8_begin_6 : decode cX8_begin 6 = .ok (.iconst 0, 1) := by decide +kernel
theorem dX8_begin_7 : decode cX8_begin 7 = .ok (.putfield 15, 3) := by decide +kernel
theorem dX8_begin_10 : decode cX8_begin 10 = .ok (.iconst 0, 1) := by decide +kernel
theorem dX8_begin_11 : decode cX8_begin 11 = .ok (.istore_n 2, 1) := by decide +kernel
theorem dX8_begin_12 : decode cX8_begin 12 = .ok (.iload_n 2, 1) := by decide +kernel
theorem dX8_begin_13 : decode cX8_begin 13 = .ok (.iload_n 1, 1) := by decide +kernel
theorem dX8_begin_14 : decode cX8_begin 14 = .ok (.if_icmp .ge 16, 3) := by decide +kernel
theorem dX8_begin_17 : decode cX8_begin 17 = .ok (.aload_n 0, 1) := by decide +kernel
theorem dX8_begin_18 : decode cX8_begin 18 = .ok (.getfield 25, 3) := by decide +kernel
theorem dX8_begin_21 : decode cX8_begin 21 = .ok (.iload_n 2, 1) := by decide +kernel
theorem dX8_begin_22 : decode cX8_begin 22 = .ok (.iconst 0, 1) := by decide +kernel
theorem dX8_begin_23 : decode cX8_begin 23 = .ok (.iastore, 1) := by decide +kernel
theorem dX8_begin_24 : decode cX8_begin 24 = .ok (.iinc 2 1, 3) := by decide +kernel
theorem dX8_begin_27 : decode cX8_begin 27 = .ok (.goto (-15), 3) := by decide +kernel
theorem dX8_begin_30 : decode cX8_begin 30 = .ok (.return_, 1) := by decide +kernel
theorem dX8_aimAt_0 : decode cX8_aimAt 0 = .ok (.aload_n 0, 1) := by decide +kernel
theorem dX8_aimAt_1 : decode cX8_aimAt 1 = .ok (.getfield 15, 3) := by decide +kernel
theorem dX8_aimAt_4 : decode cX8_aimAt 4 = .ok (.aload_n 0, 1) := by decide +kernel
theorem dX8_aimAt_5 : decode cX8_aimAt 5 = .ok (.getfield 22, 3) := by decide +kernel
theorem dX8_aimAt_8 : decode cX8_aimAt 8 = .ok (.if_icmp .lt 4, 3) := by decide +kernel
theorem dX8_aimAt_11 : decode cX8_aimAt 11 = .ok (.return_, 1) := by decide +kernel
theorem dX8_aimAt_12 : decode cX8_aimAt 12 = .ok (.iconst 0, 1) := by decide +kernel
theorem dX8_aimAt_13 : decode cX8_aimAt 13 = .ok (.istore_n 3, 1) := by decide +kernel
theorem dX8_aimAt_14 : decode cX8_aimAt 14 = .ok (.iload_n 3, 1) := by decide +kernel
theorem dX8_aimAt_15 : decode cX8_aimAt 15 = .ok (.aload_n 0, 1) := by decide +kernel
theorem dX8_aimAt_16 : decode cX8_aimAt 16 = .ok (.getfield 9, 3) := by decide +kernel
theorem dX8_aimAt_19 : decode cX8_aimAt 19 = .ok (.if_icmp .ge 30, 3) := by decide +kernel
theorem dX8_aimAt_22 : decode cX8_aimAt 22 = .ok (.aload_n 0, 1) := by decide +kernel
theorem dX8_aimAt_23 : decode cX8_aimAt 23 = .ok (.getfield 32, 3) := by decide +kernel
theorem dX8_aimAt_26 : decode cX8_aimAt 26 = .ok (.iload_n 3, 1) := by decide +kernel
theorem dX8_aimAt_27 : decode cX8_aimAt 27 = .ok (.aload_n 0, 1) := by decide +kernel
theorem dX8_aimAt_28 : decode cX8_aimAt 28 = .ok (.getfield 22, 3) := by decide +kernel
theorem dX8_aimAt_31 : decode cX8_aimAt 31 = .ok (.imul, 1) := by decide +kernel
theorem dX8_aimAt_32 : decode cX8_aimAt 32 = .ok (.aload_n 0, 1) := by decide +kernel
theorem dX8_aimAt_33 : decode cX8_aimAt 33 = .ok (.getfield 15, 3) := by decide +kernel
theorem dX8_aimAt_36 : decode cX8_aimAt 36 = .ok (.iadd, 1) := by decide +kernel
theorem dX8_aimAt_37 : decode cX8_aimAt 37 = .ok (.aload_n 1, 1) := by decide +kernel
theorem dX8_aimAt_38 : decode cX8_aimAt 38 = .ok (.iload_n 2, 1) := by decide +kernel
theorem dX8_aimAt_39 : decode cX8_aimAt 39 = .ok (.iload_n 3, 1) := by decide +kernel
theorem dX8_aimAt_40 : decode cX8_aimAt 40 = .ok (.iadd, 1) := by decide +kernel
theorem dX8_aimAt_41 : decode cX8_aimAt 41 = .ok (.iaload, 1) := by decide +kernel
theorem dX8_aimAt_42 : decode cX8_aimAt 42 = .ok (.iastore, 1) := by decide +kernel
theorem dX8_aimAt_43 : decode cX8_aimAt 43 = .ok (.iinc 3 1, 3) := by decide +kernel
theorem dX8_aimAt_46 : decode cX8_aimAt 46 = .ok (.goto (-32), 3) := by decide +kernel
theorem dX8_aimAt_49 : decode cX8_aimAt 49 = .ok (.aload_n 0, 1) := by decide +kernel
theorem dX8_aimAt_50 : decode cX8_aimAt 50 = .ok (.dup, 1) := by decide +kernel
theorem dX8_aimAt_51 : decode cX8_aimAt 51 = .ok (.getfield 15, 3) := by decide +kernel
theorem dX8_aimAt_54 : decode cX8_aimAt 54 = .ok (.iconst 1, 1) := by decide +kernel
theorem dX8_aimAt_55 : decode cX8_aimAt 55 = .ok (.iadd, 1) := by decide +kernel
theorem dX8_aimAt_56 : decode cX8_aimAt 56 = .ok (.putfield 15, 3) := by decide +kernel
theorem dX8_aimAt_59 : decode cX8_aimAt 59 = .ok (.return_, 1) := by decide +kernel
theorem dX8_put_0 : decode cX8_put 0 = .ok (.aload_n 0, 1) := by decide +kernel
theorem dX8_put_1 : decode cX8_put 1 = .ok (.getfield 25, 3) := by decide +kernel
theorem dX8_put_4 : decode cX8_put 4 = .ok (.iload_n 1, 1) := by decide +kernel
theorem dX8_put_5 : decode cX8_put 5 = .ok (.iaload, 1) := by decide +kernel
theorem dX8_put_6 : decode cX8_put 6 = .ok (.istore_n 2, 1) := by decide +kernel
theorem dX8_put_7 : decode cX8_put 7 = .ok (.iload_n 2, 1) := by decide +kernel
theorem dX8_put_8 : decode cX8_put 8 = .ok (.iconst 4, 1) := by decide +kernel
theorem dX8_put_9 : decode cX8_put 9 = .ok (.imul, 1) := by decide +kernel
theorem dX8_put_10 : decode cX8_put 10 = .ok (.istore_n 3, 1) := by decide +kernel
theorem dX8_put_11 : decode cX8_put 11 = .ok (.aload_n 0, 1) := by decide +kernel
theorem dX8_put_12 : decode cX8_put 12 = .ok (.getfield 18, 3) := by decide +kernel
theorem dX8_put_15 : decode cX8_put 15 = .ok (.getfield 41, 3) := by decide +kernel
theorem dX8_put_18 : decode cX8_put 18 = .ok (.astore 4, 2) := by decide +kernel
theorem dX8_put_20 : decode cX8_put 20 = .ok (.iload_n 1, 1) := by decide +kernel
theorem dX8_put_21 : decode cX8_put 21 = .ok (.aload_n 0, 1) := by decide +kernel
theorem dX8_put_22 : decode cX8_put 22 = .ok (.getfield 22, 3) := by decide +kernel
theorem dX8_put_25 : decode cX8_put 25 = .ok (.imul, 1) := by decide +kernel
theorem dX8_put_26 : decode cX8_put 26 = .ok (.istore 5, 2) := by decide +kernel
theorem dX8_put_28 : decode cX8_put 28 = .ok (.iload 5, 2) := by decide +kernel
theorem dX8_put_30 : decode cX8_put 30 = .ok (.aload_n 0, 1) := by decide +kernel
theorem dX8_put_31 : decode cX8_put 31 = .ok (.getfield 15, 3) := by decide +kernel
theorem dX8_put_34 : decode cX8_put 34 = .ok (.iadd, 1) := by decide +kernel
theorem dX8_put_35 : decode cX8_put 35 = .ok (.istore 6, 2) := by decide +kernel
theorem dX8_put_37 : decode cX8_put 37 = .ok (.iload 5, 2) := by decide +kernel
theorem dX8_put_39 : decode cX8_put 39 = .ok (.istore 7, 2) := by decide +kernel
theorem dX8_put_41 : decode cX8_put 41 = .ok (.iload 7, 2) := by decide +kernel
theorem dX8_put_43 : decode cX8_put 43 = .ok (.iload 6, 2) := by decide +kernel
theorem dX8_put_45 : decode cX8_put 45 = .ok (.if_icmp .ge 41, 3) := by decide +kernel
theorem dX8_put_48 : decode cX8_put 48 = .ok (.aload_n 0, 1) := by decide +kernel
theorem dX8_put_49 : decode cX8_put 49 = .ok (.getfield 29, 3) := by decide +kernel
theorem dX8_put_52 : decode cX8_put 52 = .ok (.iload 7, 2) := by decide +kernel
theorem dX8_put_54 : decode cX8_put 54 = .ok (.aload_n 0, 1) := by decide +kernel
theorem dX8_put_55 : decode cX8_put 55 = .ok (.getfield 22, 3) := by decide +kernel
theorem dX8_put_58 : decode cX8_put 58 = .ok (.iadd, 1) := by decide +kernel
theorem dX8_put_59 : decode cX8_put 59 = .ok (.aload_n 0, 1) := by decide +kernel
theorem dX8_put_60 : decode cX8_put 60 = .ok (.getfield 29, 3) := by decide +kernel
theorem dX8_put_63 : decode cX8_put 63 = .ok (.iload 7, 2) := by decide +kernel
theorem dX8_put_65 : decode cX8_put 65 = .ok (.iaload, 1) := by decide +kernel
theorem dX8_put_66 : decode cX8_put 66 = .ok (.aload 4, 2) := by decide +kernel
theorem dX8_put_68 : decode cX8_put 68 = .ok (.iload_n 3, 1) := by decide +kernel
theorem dX8_put_69 : decode cX8_put 69 = .ok (.aload_n 0, 1) := by decide +kernel
theorem dX8_put_70 : decode cX8_put 70 = .ok (.getfield 32, 3) := by decide +kernel
theorem dX8_put_73 : decode cX8_put 73 = .ok (.iload 7, 2) := by decide +kernel
theorem dX8_put_75 : decode cX8_put 75 = .ok (.iaload, 1) := by decide +kernel
theorem dX8_put_76 : decode cX8_put 76 = .ok (.iadd, 1) := by decide +kernel
theorem dX8_put_77 : decode cX8_put 77 = .ok (.iaload, 1) := by decide +kernel
theorem dX8_put_78 : decode cX8_put 78 = .ok (.iadd, 1) := by decide +kernel
theorem dX8_put_79 : decode cX8_put 79 = .ok (.iastore, 1) := by decide +kernel
theorem dX8_put_80 : decode cX8_put 80 = .ok (.iinc 7 1, 3) := by decide +kernel
theorem dX8_put_83 : decode cX8_put 83 = .ok (.goto (-42), 3) := by decide +kernel
theorem dX8_put_86 : decode cX8_put 86 = .ok (.aload_n 0, 1) := by decide +kernel
theorem dX8_put_87 : decode cX8_put 87 = .ok (.getfield 35, 3) := by decide +kernel
theorem dX8_put_90 : decode cX8_put 90 = .ok (.iload_n 1, 1) := by decide +kernel
theorem dX8_put_91 : decode cX8_put 91 = .ok (.iconst 1, 1) := by decide +kernel
theorem dX8_put_92 : decode cX8_put 92 = .ok (.iadd, 1) := by decide +kernel
theorem dX8_put_93 : decode cX8_put 93 = .ok (.aload_n 0, 1) := by decide +kernel
theorem dX8_put_94 : decode cX8_put 94 = .ok (.getfield 35, 3) := by decide +kernel
theorem dX8_put_97 : decode cX8_put 97 = .ok (.iload_n 1, 1) := by decide +kernel
theorem dX8_put_98 : decode cX8_put 98 = .ok (.iaload, 1) := by decide +kernel
theorem dX8_put_99 : decode cX8_put 99 = .ok (.iconst 2, 1) := by decide +kernel
theorem dX8_put_100 : decode cX8_put 100 = .ok (.ishl, 1) := by decide +kernel
theorem dX8_put_101 : decode cX8_put 101 = .ok (.iload_n 2, 1) := by decide +kernel
theorem dX8_put_102 : decode cX8_put 102 = .ok (.ior, 1) := by decide +kernel
theorem dX8_put_103 : decode cX8_put 103 = .ok (.iastore, 1) := by decide +kernel
theorem dX8_put_104 : decode cX8_put 104 = .ok (.aload_n 0, 1) := by decide +kernel
theorem dX8_put_105 : decode cX8_put 105 = .ok (.getfield 38, 3) := by decide +kernel
theorem dX8_put_108 : decode cX8_put 108 = .ok (.iload_n 1, 1) := by decide +kernel
theorem dX8_put_109 : decode cX8_put 109 = .ok (.iconst 1, 1) := by decide +kernel
theorem dX8_put_110 : decode cX8_put 110 = .ok (.iadd, 1) := by decide +kernel
theorem dX8_put_111 : decode cX8_put 111 = .ok (.aload_n 0, 1) := by decide +kernel
theorem dX8_put_112 : decode cX8_put 112 = .ok (.getfield 38, 3) := by decide +kernel
theorem dX8_put_115 : decode cX8_put 115 = .ok (.iload_n 1, 1) := by decide +kernel
theorem dX8_put_116 : decode cX8_put 116 = .ok (.iaload, 1) := by decide +kernel
theorem dX8_put_117 : decode cX8_put 117 = .ok (.iconst 1, 1) := by decide +kernel
theorem dX8_put_118 : decode cX8_put 118 = .ok (.iconst 4, 1) := by decide +kernel
theorem dX8_put_119 : decode cX8_put 119 = .ok (.iload_n 1, 1) := by decide +kernel
theorem dX8_put_120 : decode cX8_put 120 = .ok (.imul, 1) := by decide +kernel
theorem dX8_put_121 : decode cX8_put 121 = .ok (.iload_n 2, 1) := by decide +kernel
theorem dX8_put_122 : decode cX8_put 122 = .ok (.iadd, 1) := by decide +kernel
theorem dX8_put_123 : decode cX8_put 123 = .ok (.ishl, 1) := by decide +kernel
theorem dX8_put_124 : decode cX8_put 124 = .ok (.ior, 1) := by decide +kernel
theorem dX8_put_125 : decode cX8_put 125 = .ok (.iastore, 1) := by decide +kernel
theorem dX8_put_126 : decode cX8_put 126 = .ok (.aload_n 0, 1) := by decide +kernel
theorem dX8_put_127 : decode cX8_put 127 = .ok (.getfield 18, 3) := by decide +kernel
theorem dX8_put_130 : decode cX8_put 130 = .ok (.getfield 46, 3) := by decide +kernel
theorem dX8_put_133 : decode cX8_put 133 = .ok (.ifCond .le 24, 3) := by decide +kernel
theorem dX8_put_136 : decode cX8_put 136 = .ok (.iload_n 1, 1) := by decide +kernel
theorem dX8_put_137 : decode cX8_put 137 = .ok (.ifCond .le 20, 3) := by decide +kernel
theorem dX8_put_140 : decode cX8_put 140 = .ok (.aload_n 0, 1) := by decide +kernel
theorem dX8_put_141 : decode cX8_put 141 = .ok (.getfield 25, 3) := by decide +kernel
theorem dX8_put_144 : decode cX8_put 144 = .ok (.iload_n 1, 1) := by decide +kernel
theorem dX8_put_145 : decode cX8_put 145 = .ok (.iconst 1, 1) := by decide +kernel
theorem dX8_put_146 : decode cX8_put 146 = .ok (.isub, 1) := by decide +kernel
theorem dX8_put_147 : decode cX8_put 147 = .ok (.iaload, 1) := by decide +kernel
theorem dX8_put_148 : decode cX8_put 148 = .ok (.iload_n 2, 1) := by decide +kernel
theorem dX8_put_149 : decode cX8_put 149 = .ok (.if_icmp .eq 8, 3) := by decide +kernel
theorem dX8_put_152 : decode cX8_put 152 = .ok (.aload_n 0, 1) := by decide +kernel
theorem dX8_put_153 : decode cX8_put 153 = .ok (.iload_n 1, 1) := by decide +kernel
theorem dX8_put_154 : decode cX8_put 154 = .ok (.invokevirtual 49, 3) := by decide +kernel
theorem dX8_put_157 : decode cX8_put 157 = .ok (.return_, 1) := by decide +kernel
theorem dX8_putSwapped_0 : decode cX8_putSwapped 0 = .ok (.aload_n 0, 1) := by decide +kernel
theorem dX8_putSwapped_1 : decode cX8_putSwapped 1 = .ok (.getfield 25, 3) := by decide +kernel
theorem dX8_putSwapped_4 : decode cX8_putSwapped 4 = .ok (.iload_n 1, 1) := by decide +kernel
theorem dX8_putSwapped_5 : decode cX8_putSwapped 5 = .ok (.iaload, 1) := by decide +kernel
theorem dX8_putSwapped_6 : decode cX8_putSwapped 6 = .ok (.istore_n 2, 1) := by decide +kernel
theorem dX8_putSwapped_7 : decode cX8_putSwapped 7 = .ok (.aload_n 0, 1) := by decide +kernel
theorem dX8_putSwapped_8 : decode cX8_putSwapped 8 = .ok (.getfield 25, 3) := by decide +kernel
theorem dX8_putSwapped_11 : decode cX8_putSwapped 11 = .ok (.iload_n 1, 1) := by decide +kernel
theorem dX8_putSwapped_12 : decode cX8_putSwapped 12 = .ok (.iconst 1, 1) := by decide +kernel
theorem dX8_putSwapped_13 : decode cX8_putSwapped 13 = .ok (.isub, 1) := by decide +kernel
theorem dX8_putSwapped_14 : decode cX8_putSwapped 14 = .ok (.iaload, 1) := by decide +kernel
theorem dX8_putSwapped_15 : decode cX8_putSwapped 15 = .ok (.istore_n 3, 1) := by decide +kernel
theorem dX8_putSwapped_16 : decode cX8_putSwapped 16 = .ok (.iload_n 1, 1) := by decide +kernel
theorem dX8_putSwapped_17 : decode cX8_putSwapped 17 = .ok (.aload_n 0, 1) := by decide +kernel
theorem dX8_putSwapped_18 : decode cX8_putSwapped 18 = .ok (.getfield 22, 3) := by decide +kernel
theorem dX8_putSwapped_21 : decode cX8_putSwapped 21 = .ok (.imul, 1) := by decide +kernel
theorem dX8_putSwapped_22 : decode cX8_putSwapped 22 = .ok (.istore 4, 2) := by decide +kernel
theorem dX8_putSwapped_24 : decode cX8_putSwapped 24 = .ok (.iload 4, 2) := by decide +kernel
theorem dX8_putSwapped_26 : decode cX8_putSwapped 26 = .ok (.aload_n 0, 1) := by decide +kernel
theorem dX8_putSwapped_27 : decode cX8_putSwapped 27 = .ok (.getfield 22, 3) := by decide +kernel
theorem dX8_putSwapped_30 : decode cX8_putSwapped 30 = .ok (.isub, 1) := by decide +kernel
theorem dX8_putSwapped_31 : decode cX8_putSwapped 31 = .ok (.istore 5, 2) := by decide +kernel
theorem dX8_putSwapped_33 : decode cX8_putSwapped 33 = .ok (.iconst 0, 1) := by decide +kernel
theorem dX8_putSwapped_34 : decode cX8_putSwapped 34 = .ok (.istore 6, 2) := by decide +kernel
theorem dX8_putSwapped_36 : decode cX8_putSwapped 36 = .ok (.iload 6, 2) := by decide +kernel
theorem dX8_putSwapped_38 : decode cX8_putSwapped 38 = .ok (.aload_n 0, 1) := by decide +kernel
theorem dX8_putSwapped_39 : decode cX8_putSwapped 39 = .ok (.getfield 15, 3) := by decide +kernel
theorem dX8_putSwapped_42 : decode cX8_putSwapped 42 = .ok (.if_icmp .ge 94, 3) := by decide +kernel
theorem dX8_putSwapped_45 : decode cX8_putSwapped 45 = .ok (.aload_n 0, 1) := by decide +kernel
theorem dX8_putSwapped_46 : decode cX8_putSwapped 46 = .ok (.getfield 32, 3) := by decide +kernel
theorem dX8_putSwapped_49 : decode cX8_putSwapped 49 = .ok (.iload 4, 2) := by decide +kernel
theorem dX8_putSwapped_51 : decode cX8_putSwapped 51 = .ok (.iload 6, 2) := by decide +kernel
theorem dX8_putSwapped_53 : decode cX8_putSwapped 53 = .ok (.iadd, 1) := by decide +kernel
theorem dX8_putSwapped_54 : decode cX8_putSwapped 54 = .ok (.iaload, 1) := by decide +kernel
theorem dX8_putSwapped_55 : decode cX8_putSwapped 55 = .ok (.iload_n 3, 1) := by decide +kernel
theorem dX8_putSwapped_56 : decode cX8_putSwapped 56 = .ok (.if_icmp .ne 74, 3) := by decide +kernel
theorem dX8_putSwapped_59 : decode cX8_putSwapped 59 = .ok (.aload_n 0, 1) := by decide +kernel
theorem dX8_putSwapped_60 : decode cX8_putSwapped 60 = .ok (.getfield 32, 3) := by decide +kernel
theorem dX8_putSwapped_63 : decode cX8_putSwapped 63 = .ok (.iload 5, 2) := by decide +kernel
theorem dX8_putSwapped_65 : decode cX8_putSwapped 65 = .ok (.iload 6, 2) := by decide +kernel
theorem dX8_putSwapped_67 : decode cX8_putSwapped 67 = .ok (.iadd, 1) := by decide +kernel
theorem dX8_putSwapped_68 : decode cX8_putSwapped 68 = .ok (.iaload, 1) := by decide +kernel
theorem dX8_putSwapped_69 : decode cX8_putSwapped 69 = .ok (.iload_n 2, 1) := by decide +kernel
theorem dX8_putSwapped_70 : decode cX8_putSwapped 70 = .ok (.if_icmp .ne 60, 3) := by decide +kernel
theorem dX8_putSwapped_73 : decode cX8_putSwapped 73 = .ok (.aload_n 0, 1) := by decide +kernel
theorem dX8_putSwapped_74 : decode cX8_putSwapped 74 = .ok (.getfield 29, 3) := by decide +kernel
theorem dX8_putSwapped_77 : decode cX8_putSwapped 77 = .ok (.iload 5, 2) := by decide +kernel
theorem dX8_putSwapped_79 : decode cX8_putSwapped 79 = .ok (.iload 6, 2) := by decide +kernel
theorem dX8_putSwapped_81 : decode cX8_putSwapped 81 = .ok (.iadd, 1) := by decide +kernel
theorem dX8_putSwapped_82 : decode cX8_putSwapped 82 = .ok (.iaload, 1) := by decide +kernel
theorem dX8_putSwapped_83 : decode cX8_putSwapped 83 = .ok (.aload_n 0, 1) := by decide +kernel
theorem dX8_putSwapped_84 : decode cX8_putSwapped 84 = .ok (.getfield 18, 3) := by decide +kernel
theorem dX8_putSwapped_87 : decode cX8_putSwapped 87 = .ok (.getfield 46, 3) := by decide +kernel
theorem dX8_putSwapped_90 : decode cX8_putSwapped 90 = .ok (.iadd, 1) := by decide +kernel
theorem dX8_putSwapped_91 : decode cX8_putSwapped 91 = .ok (.istore 7, 2) := by decide +kernel
theorem dX8_putSwapped_93 : decode cX8_putSwapped 93 = .ok (.iload 7, 2) := by decide +kernel
theorem dX8_putSwapped_95 : decode cX8_putSwapped 95 = .ok (.aload_n 0, 1) := by decide +kernel
theorem dX8_putSwapped_96 : decode cX8_putSwapped 96 = .ok (.getfield 29, 3) := by decide +kernel
theorem dX8_putSwapped_99 : decode cX8_putSwapped 99 = .ok (.iload 4, 2) := by decide +kernel
theorem dX8_putSwapped_101 : decode cX8_putSwapped 101 = .ok (.aload_n 0, 1) := by decide +kernel
theorem dX8_putSwapped_102 : decode cX8_putSwapped 102 = .ok (.getfield 22, 3) := by decide +kernel
theorem dX8_putSwapped_105 : decode cX8_putSwapped 105 = .ok (.iadd, 1) := by decide +kernel
theorem dX8_putSwapped_106 : decode cX8_putSwapped 106 = .ok (.iload 6, 2) := by decide +kernel
theorem dX8_putSwapped_108 : decode cX8_putSwapped 108 = .ok (.iadd, 1) := by decide +kernel
theorem dX8_putSwapped_109 : decode cX8_putSwapped 109 = .ok (.iaload, 1) := by decide +kernel
theorem dX8_putSwapped_110 : decode cX8_putSwapped 110 = .ok (.if_icmp .ge 20, 3) := by decide +kernel
theorem dX8_putSwapped_113 : decode cX8_putSwapped 113 = .ok (.aload_n 0, 1) := by decide +kernel
theorem dX8_putSwapped_114 : decode cX8_putSwapped 114 = .ok (.getfield 29, 3) := by decide +kernel
theorem dX8_putSwapped_117 : decode cX8_putSwapped 117 = .ok (.iload 4, 2) := by decide +kernel
theorem dX8_putSwapped_119 : decode cX8_putSwapped 119 = .ok (.aload_n 0, 1) := by decide +kernel
theorem dX8_putSwapped_120 : decode cX8_putSwapped 120 = .ok (.getfield 22, 3) := by decide +kernel
theorem dX8_putSwapped_123 : decode cX8_putSwapped 123 = .ok (.iadd, 1) := by decide +kernel
theorem dX8_putSwapped_124 : decode cX8_putSwapped 124 = .ok (.iload 6, 2) := by decide +kernel
theorem dX8_putSwapped_126 : decode cX8_putSwapped 126 = .ok (.iadd, 1) := by decide +kernel
theorem dX8_putSwapped_127 : decode cX8_putSwapped 127 = .ok (.iload 7, 2) := by decide +kernel
theorem dX8_putSwapped_129 : decode cX8_putSwapped 129 = .ok (.iastore, 1) := by decide +kernel
theorem dX8_putSwapped_130 : decode cX8_putSwapped 130 = .ok (.iinc 6 1, 3) := by decide +kernel
theorem dX8_putSwapped_133 : decode cX8_putSwapped 133 = .ok (.goto (-97), 3) := by decide +kernel
theorem dX8_putSwapped_136 : decode cX8_putSwapped 136 = .ok (.return_, 1) := by decide +kernel
theorem dX8_putFrom_0 : decode cX8_putFrom 0 = .ok (.iload_n 1, 1) := by decide +kernel
theorem dX8_putFrom_1 : decode cX8_putFrom 1 = .ok (.istore_n 2, 1) := by decide +kernel
theorem dX8_putFrom_2 : decode cX8_putFrom 2 = .ok (.iload_n 2, 1) := by decide +kernel
theorem dX8_putFrom_3 : decode cX8_putFrom 3 = .ok (.aload_n 0, 1) := by decide +kernel
theorem dX8_putFrom_4 : decode cX8_putFrom 4 = .ok (.getfield 9, 3) := by decide +kernel
theorem dX8_putFrom_7 : decode cX8_putFrom 7 = .ok (.if_icmp .ge 14, 3) := by decide +kernel
theorem dX8_putFrom_10 : decode cX8_putFrom 10 = .ok (.aload_n 0, 1) := by decide +kernel
theorem dX8_putFrom_11 : decode cX8_putFrom 11 = .ok (.iload_n 2, 1) := by decide +kernel
theorem dX8_putFrom_12 : decode cX8_putFrom 12 = .ok (.invokevirtual 53, 3) := by decide +kernel
theorem dX8_putFrom_15 : decode cX8_putFrom 15 = .ok (.iinc 2 1, 3) := by decide +kernel
theorem dX8_putFrom_18 : decode cX8_putFrom 18 = .ok (.goto (-16), 3) := by decide +kernel
theorem dX8_putFrom_21 : decode cX8_putFrom 21 = .ok (.return_, 1) := by decide +kernel
theorem dX8_advance_0 : decode cX8_advance 0 = .ok (.aload_n 0, 1) := by decide +kernel
theorem dX8_advance_1 : decode cX8_advance 1 = .ok (.getfield 18, 3) := by decide +kernel
theorem dX8_advance_4 : decode cX8_advance 4 = .ok (.aload_n 0, 1) := by decide +kernel
theorem dX8_advance_5 : decode cX8_advance 5 = .ok (.getfield 25, 3) := by decide +kernel
theorem dX8_advance_8 : decode cX8_advance 8 = .ok (.iload_n 1, 1) := by decide +kernel
theorem dX8_advance_9 : decode cX8_advance 9 = .ok (.aload_n 0, 1) := by decide +kernel
theorem dX8_advance_10 : decode cX8_advance 10 = .ok (.getfield 9, 3) := by decide +kernel
theorem dX8_advance_13 : decode cX8_advance 13 = .ok (.invokevirtual 56, 3) := by decide +kernel
theorem dX8_advance_16 : decode cX8_advance 16 = .ok (.ireturn, 1) := by decide +kernel
theorem dX8_whole_0 : decode cX8_whole 0 = .ok (.aload_n 0, 1) := by decide +kernel
theorem dX8_whole_1 : decode cX8_whole 1 = .ok (.getfield 9, 3) := by decide +kernel
theorem dX8_whole_4 : decode cX8_whole 4 = .ok (.aload_n 0, 1) := by decide +kernel
theorem dX8_whole_5 : decode cX8_whole 5 = .ok (.getfield 22, 3) := by decide +kernel
theorem dX8_whole_8 : decode cX8_whole 8 = .ok (.imul, 1) := by decide +kernel
theorem dX8_whole_9 : decode cX8_whole 9 = .ok (.ireturn, 1) := by decide +kernel
theorem dX8_packedRow_0 : decode cX8_packedRow 0 = .ok (.aload_n 0, 1) := by decide +kernel
theorem dX8_packedRow_1 : decode cX8_packedRow 1 = .ok (.getfield 35, 3) := by decide +kernel
theorem dX8_packedRow_4 : decode cX8_packedRow 4 = .ok (.aload_n 0, 1) := by decide +kernel
theorem dX8_packedRow_5 : decode cX8_packedRow 5 = .ok (.getfield 9, 3) := by decide +kernel
theorem dX8_packedRow_8 : decode cX8_packedRow 8 = .ok (.iaload, 1) := by decide +kernel
theorem dX8_packedRow_9 : decode cX8_packedRow 9 = .ok (.ireturn, 1) := by decide +kernel
theorem dX8_spotsOfRow_0 : decode cX8_spotsOfRow 0 = .ok (.aload_n 0, 1) := by decide +kernel
theorem dX8_spotsOfRow_1 : decode cX8_spotsOfRow 1 = .ok (.getfield 38, 3) := by decide +kernel
theorem dX8_spotsOfRow_4 : decode cX8_spotsOfRow 4 = .ok (.aload_n 0, 1) := by decide +kernel
theorem dX8_spotsOfRow_5 : decode cX8_spotsOfRow 5 = .ok (.getfield 9, 3) := by decide +kernel
theorem dX8_spotsOfRow_8 : decode cX8_spotsOfRow 8 = .ok (.iaload, 1) := by decide +kernel
theorem dX8_spotsOfRow_9 : decode cX8_spotsOfRow 9 = .ok (.ireturn, 1) := by decide +kernel
theorem dX9_init_0 : decode cX9_init 0 = .ok (.aload_n 0, 1) := by decide +kernel
theorem dX9_init_1 : decode cX9_init 1 = .ok (.invokespecial 3, 3) := by decide +kernel
theorem dX9_init_4 : decode cX9_init 4 = .ok (.aload_n 0, 1) := by decide +kernel
theorem dX9_init_5 : decode cX9_init 5 = .ok (.iconst 0, 1) := by decide +kernel
theorem dX9_init_6 : decode cX9_init 6 = .ok (.putfield 9, 3) := by decide +kernel
theorem dX9_init_9 : decode cX9_init 9 = .ok (.aload_n 0, 1) := by decide +kernel
theorem dX9_init_10 : decode cX9_init 10 = .ok (.iconst 0, 1) := by decide +kernel
theorem dX9_init_11 : decode cX9_init 11 = .ok (.putfield 15, 3) := by decide +kernel
theorem dX9_init_14 : decode cX9_init 14 = .ok (.aload_n 0, 1) := by decide +kernel
theorem dX9_init_15 : decode cX9_init 15 = .ok (.bipush 56, 2) := by decide +kernel
theorem dX9_init_17 : decode cX9_init 17 = .ok (.newarray .int, 2) := by decide +kernel
theorem dX9_init_19 : decode cX9_init 19 = .ok (.putfield 18, 3) := by decide +kernel
theorem dX9_init_22 : decode cX9_init 22 = .ok (.aload_n 0, 1) := by decide +kernel
theorem dX9_init_23 : decode cX9_init 23 = .ok (.bipush 8, 2) := by decide +kernel
theorem dX9_init_25 : decode cX9_init 25 = .ok (.newarray .int, 2) := by decide +kernel
theorem dX9_init_27 : decode cX9_init 27 = .ok (.putfield 22, 3) := by decide +kernel
theorem dX9_init_30 : decode cX9_init 30 = .ok (.return_, 1) := by decide +kernel
theorem dX9_has_0 : decode cX9_has 0 = .ok (.iload_n 1, 1) := by decide +kernel
theorem dX9_has_1 : decode cX9_has 1 = .ok (.ifCond .lt 15, 3) := by decide +kernel
theorem dX9_has_4 : decode cX9_has 4 = .ok (.iload_n 1, 1) := by decide +kernel
theorem dX9_has_5 : decode cX9_has 5 = .ok (.aload_n 0, 1) := by decide +kernel
theorem dX9_has_6 : decode cX9_has 6 = .ok (.getfield 9, 3) := by decide +kernel
theorem dX9_has_9 : decode cX9_has 9 = .ok (.if_icmp .ge 7, 3) := by decide +kernel
theorem dX9_has_12 : decode cX9_has 12 = .ok (.iconst 1, 1) := by decide +kernel
theorem dX9_has_13 : decode cX9_has 13 = .ok (.goto 4, 3) := by decide +kernel
theorem dX9_has_16 : decode cX9_has 16 = .ok (.iconst 0, 1) := by decide +kernel
theorem dX9_has_17 : decode cX9_has 17 = .ok (.ireturn, 1) := by decide +kernel
theorem dX9_start_0 : decode cX9_start 0 = .ok (.iload_n 1, 1) := by decide +kernel
theorem dX9_start_1 : decode cX9_start 1 = .ok (.bipush 7, 2) := by decide +kernel
theorem dX9_start_3 : decode cX9_start 3 = .ok (.imul, 1) := by decide +kernel
theorem dX9_start_4 : decode cX9_start 4 = .ok (.ireturn, 1) := by decide +kernel
theorem dX9_add_0 : decode cX9_add 0 = .ok (.aload_n 0, 1) := by decide +kernel
theorem dX9_add_1 : decode cX9_add 1 = .ok (.iload_n 2, 1) := by decide +kernel
theorem dX9_add_2 : decode cX9_add 2 = .ok (.putfield 15, 3) := by decide +kernel
theorem dX9_add_5 : decode cX9_add 5 = .ok (.aload_n 1, 1) := by decide +kernel
theorem dX9_add_6 : decode cX9_add 6 = .ok (.iconst 0, 1) := by decide +kernel
theorem dX9_add_7 : decode cX9_add 7 = .ok (.aload_n 0, 1) := by decide +kernel
theorem dX9_add_8 : decode cX9_add 8 = .ok (.getfield 18, 3) := by decide +kernel
theorem dX9_add_11 : decode cX9_add 11 = .ok (.aload_n 0, 1) := by decide +kernel
theorem dX9_add_12 : decode cX9_add 12 = .ok (.aload_n 0, 1) := by decide +kernel
theorem dX9_add_13 : decode cX9_add 13 = .ok (.getfield 9, 3) := by decide +kernel
theorem dX9_add_16 : decode cX9_add 16 = .ok (.invokevirtual 25, 3) := by decide +kernel
theorem dX9_add_19 : decode cX9_add 19 = .ok (.iload_n 2, 1) := by decide +kernel
theorem dX9_add_20 : decode cX9_add 20 = .ok (.invokestatic 29, 3) := by decide +kernel
theorem dX9_add_23 : decode cX9_add 23 = .ok (.aload_n 0, 1) := by decide +kernel
theorem dX9_add_24 : decode cX9_add 24 = .ok (.getfield 22, 3) := by decide +kernel
theorem dX9_add_27 : decode cX9_add 27 = .ok (.aload_n 0, 1) := by decide +kernel
theorem dX9_add_28 : decode cX9_add 28 = .ok (.getfield 9, 3) := by decide +kernel
theorem dX9_add_31 : decode cX9_add 31 = .ok (.iconst 1, 1) := by decide +kernel
theorem dX9_add_32 : decode cX9_add 32 = .ok (.iastore, 1) := by decide +kernel
theorem dX9_add_33 : decode cX9_add 33 = .ok (.aload_n 0, 1) := by decide +kernel
theorem dX9_add_34 : decode cX9_add 34 = .ok (.dup, 1) := by decide +kernel
theorem dX9_add_35 : decode cX9_add 35 = .ok (.getfield 9, 3) := by decide +kernel
theorem dX9_add_38 : decode cX9_add 38 = .ok (.iconst 1, 1) := by decide +kernel
theorem dX9_add_39 : decode cX9_add 39 = .ok (.iadd, 1) := by decide +kernel
theorem dX9_add_40 : decode cX9_add 40 = .ok (.putfield 9, 3) := by decide +kernel
theorem dX9_add_43 : decode cX9_add 43 = .ok (.return_, 1) := by decide +kernel
theorem dX9_having_0 : decode cX9_having 0 = .ok (.iconst 0, 1) := by decide +kernel
theorem dX9_having_1 : decode cX9_having 1 = .ok (.istore_n 2, 1) := by decide +kernel
theorem dX9_having_2 : decode cX9_having 2 = .ok (.iconst 0, 1) := by decide +kernel
theorem dX9_having_3 : decode cX9_having 3 = .ok (.istore_n 3, 1) := by decide +kernel
theorem dX9_having_4 : decode cX9_having 4 = .ok (.iload_n 3, 1) := by decide +kernel
theorem dX9_having_5 : decode cX9_having 5 = .ok (.aload_n 0, 1) := by decide +kernel
theorem dX9_having_6 : decode cX9_having 6 = .ok (.getfield 9, 3) := by decide +kernel
theorem dX9_having_9 : decode cX9_having 9 = .ok (.if_icmp .ge 25, 3) := by decide +kernel
theorem dX9_having_12 : decode cX9_having 12 = .ok (.aload_n 0, 1) := by decide +kernel
theorem dX9_having_13 : decode cX9_having 13 = .ok (.getfield 22, 3) := by decide +kernel
theorem dX9_having_16 : decode cX9_having 16 = .ok (.iload_n 3, 1) := by decide +kernel
theorem dX9_having_17 : decode cX9_having 17 = .ok (.iaload, 1) := by decide +kernel
theorem dX9_having_18 : decode cX9_having 18 = .ok (.iload_n 1, 1) := by decide +kernel
theorem dX9_having_19 : decode cX9_having 19 = .ok (.if_icmp .ne 9, 3) := by decide +kernel
theorem dX9_having_22 : decode cX9_having 22 = .ok (.iload_n 2, 1) := by decide +kernel
theorem dX9_having_23 : decode cX9_having 23 = .ok (.iconst 1, 1) := by decide +kernel
theorem dX9_having_24 : decode cX9_having 24 = .ok (.iload_n 3, 1) := by decide +kernel
theorem dX9_having_25 : decode cX9_having 25 = .ok (.ishl, 1) := by decide +kernel
theorem dX9_having_26 : decode cX9_having 26 = .ok (.ior, 1) := by decide +kernel
theorem dX9_having_27 : decode cX9_having 27 = .ok (.istore_n 2, 1) := by decide +kernel
theorem dX9_having_28 : decode cX9_having 28 = .ok (.iinc 3 1, 3) := by decide +kernel
theorem dX9_having_31 : decode cX9_having 31 = .ok (.goto (-27), 3) := by decide +kernel
theorem dX9_having_34 : decode cX9_having 34 = .ok (.iload_n 2, 1) := by decide +kernel
theorem dX9_having_35 : decode cX9_having 35 = .ok (.ireturn, 1) := by decide +kernel
theorem dX9_hasNear_0 : decode cX9_hasNear 0 = .ok (.aload_n 0, 1) := by decide +kernel
theorem dX9_hasNear_1 : decode cX9_hasNear 1 = .ok (.iconst 1, 1) := by decide +kernel
theorem dX9_hasNear_2 : decode cX9_hasNear 2 = .ok (.invokevirtual 35, 3) := by decide +kernel
theorem dX9_hasNear_5 : decode cX9_hasNear 5 = .ok (.ifCond .eq 7, 3) := by decide +kernel
theorem dX9_hasNear_8 : decode cX9_hasNear 8 = .ok (.iconst 1, 1) := by decide +kernel
theorem dX9_hasNear_9 : decode cX9_hasNear 9 = .ok (.goto 4, 3) := by decide +kernel
theorem dX9_hasNear_12 : decode cX9_hasNear 12 = .ok (.iconst 0, 1) := by decide +kernel
theorem dX9_hasNear_13 : decode cX9_hasNear 13 = .ok (.ireturn, 1) := by decide +kernel
theorem dX9_letterOfRow_0 : decode cX9_letterOfRow 0 = .ok (.iload_n 2, 1) := by decide +kernel
theorem dX9_letterOfRow_1 : decode cX9_letterOfRow 1 = .ok (.ifCond .lt 11, 3) := by decide +kernel
theorem dX9_letterOfRow_4 : decode cX9_letterOfRow 4 = .ok (.iload_n 2, 1) := by decide +kernel
theorem dX9_letterOfRow_5 : decode cX9_letterOfRow 5 = .ok (.aload_n 0, 1) := by decide +kernel
theorem dX9_letterOfRow_6 : decode cX9_letterOfRow 6 = .ok (.getfield 15, 3) := by decide +kernel
theorem dX9_letterOfRow_9 : decode cX9_letterOfRow 9 = .ok (.if_icmp .lt 7, 3) := by decide +kernel
theorem dX9_letterOfRow_12 : decode cX9_letterOfRow 12 = .ok (.iconst (-1), 1) := by decide +kernel
theorem dX9_letterOfRow_13 : decode cX9_letterOfRow 13 = .ok (.goto 12, 3) := by decide +kernel
theorem dX9_letterOfRow_16 : decode cX9_letterOfRow 16 = .ok (.iload_n 1, 1) := by decide +kernel
theorem dX9_letterOfRow_17 : decode cX9_letterOfRow 17 = .ok (.aload_n 0, 1) := by decide +kernel
theorem dX9_letterOfRow_18 : decode cX9_letterOfRow 18 = .ok (.getfield 15, 3) := by decide +kernel
theorem dX9_letterOfRow_21 : decode cX9_letterOfRow 21 = .ok (.iload_n 2, 1) := by decide +kernel
theorem dX9_letterOfRow_22 : decode cX9_letterOfRow 22 = .ok (.invokestatic 38, 3) := by decide +kernel
theorem dX9_letterOfRow_25 : decode cX9_letterOfRow 25 = .ok (.ireturn, 1) := by decide +kernel
theorem dX10_init_0 : decode cX10_init 0 = .ok (.aload_n 0, 1) := by decide +kernel
theorem dX10_init_1 : decode cX10_init 1 = .ok (.invokespecial 1, 3) := by decide +kernel
theorem dX10_init_4 : decode cX10_init 4 = .ok (.aload_n 0, 1) := by decide +kernel
theorem dX10_init_5 : decode cX10_init 5 = .ok (.new 7, 3) := by decide +kernel
theorem dX10_init_8 : decode cX10_init 8 = .ok (.dup, 1) := by decide +kernel
theorem dX10_init_9 : decode cX10_init 9 = .ok (.invokespecial 9, 3) := by decide +kernel
theorem dX10_init_12 : decode cX10_init 12 = .ok (.putfield 10, 3) := by decide +kernel
theorem dX10_init_15 : decode cX10_init 15 = .ok (.aload_n 0, 1) := by decide +kernel
theorem dX10_init_16 : decode cX10_init 16 = .ok (.new 16, 3) := by decide +kernel
theorem dX10_init_19 : decode cX10_init 19 = .ok (.dup, 1) := by decide +kernel
theorem dX10_init_20 : decode cX10_init 20 = .ok (.invokespecial 18, 3) := by decide +kernel
theorem dX10_init_23 : decode cX10_init 23 = .ok (.putfield 19, 3) := by decide +kernel
theorem dX10_init_26 : decode cX10_init 26 = .ok (.aload_n 0, 1) := by decide +kernel
theorem dX10_init_27 : decode cX10_init 27 = .ok (.new 23, 3) := by decide +kernel
theorem dX10_init_30 : decode cX10_init 30 = .ok (.dup, 1) := by decide +kernel
theorem dX10_init_31 : decode cX10_init 31 = .ok (.invokespecial 25, 3) := by decide +kernel
theorem dX10_init_34 : decode cX10_init 34 = .ok (.putfield 26, 3) := by decide +kernel
theorem dX10_init_37 : decode cX10_init 37 = .ok (.aload_n 0, 1) := by decide +kernel
theorem dX10_init_38 : decode cX10_init 38 = .ok (.new 30, 3) := by decide +kernel
theorem dX10_init_41 : decode cX10_init 41 = .ok (.dup, 1) := by decide +kernel
theorem dX10_init_42 : decode cX10_init 42 = .ok (.invokespecial 32, 3) := by decide +kernel
theorem dX10_init_45 : decode cX10_init 45 = .ok (.putfield 33, 3) := by decide +kernel
theorem dX10_init_48 : decode cX10_init 48 = .ok (.aload_n 0, 1) := by decide +kernel
theorem dX10_init_49 : decode cX10_init 49 = .ok (.new 37, 3) := by decide +kernel
theorem dX10_init_52 : decode cX10_init 52 = .ok (.dup, 1) := by decide +kernel
theorem dX10_init_53 : decode cX10_init 53 = .ok (.aload_n 0, 1) := by decide +kernel
theorem dX10_init_54 : decode cX10_init 54 = .ok (.getfield 10, 3) := by decide +kernel
theorem dX10_init_57 : decode cX10_init 57 = .ok (.aload_n 0, 1) := by decide +kernel
theorem dX10_init_58 : decode cX10_init 58 = .ok (.getfield 26, 3) := by decide +kernel
theorem dX10_init_61 : decode cX10_init 61 = .ok (.invokespecial 39, 3) := by decide +kernel
theorem dX10_init_64 : decode cX10_init 64 = .ok (.putfield 42, 3) := by decide +kernel
theorem dX10_init_67 : decode cX10_init 67 = .ok (.aload_n 0, 1) := by decide +kernel
theorem dX10_init_68 : decode cX10_init 68 = .ok (.new 46, 3) := by decide +kernel
theorem dX10_init_71 : decode cX10_init 71 = .ok (.dup, 1) := by decide +kernel
theorem dX10_init_72 : decode cX10_init 72 = .ok (.aload_n 0, 1) := by decide +kernel
theorem dX10_init_73 : decode cX10_init 73 = .ok (.getfield 42, 3) := by decide +kernel
theorem dX10_init_76 : decode cX10_init 76 = .ok (.invokespecial 48, 3) := by decide +kernel
theorem dX10_init_79 : decode cX10_init 79 = .ok (.putfield 51, 3) := by decide +kernel
theorem dX10_init_82 : decode cX10_init 82 = .ok (.aload_n 0, 1) := by decide +kernel
theorem dX10_init_83 : decode cX10_init 83 = .ok (.new 55, 3) := by decide +kernel
theorem dX10_init_86 : decode cX10_init 86 = .ok (.dup, 1) := by decide +kernel
theorem dX10_init_87 : decode cX10_init 87 = .ok (.aload_n 0, 1) := by decide +kernel
theorem dX10_init_88 : decode cX10_init 88 = .ok (.getfield 42, 3) := by decide +kernel
theorem dX10_init_91 : decode cX10_init 91 = .ok (.invokespecial 57, 3) := by decide +kernel
theorem dX10_init_94 : decode cX10_init 94 = .ok (.putfield 58, 3) := by decide +kernel
theorem dX10_init_97 : decode cX10_init 97 = .ok (.aload_n 0, 1) := by decide +kernel
theorem dX10_init_98 : decode cX10_init 98 = .ok (.new 62, 3) := by decide +kernel
theorem dX10_init_101 : decode cX10_init 101 = .ok (.dup, 1) := by decide +kernel
theorem dX10_init_102 : decode cX10_init 102 = .ok (.aload_n 0, 1) := by decide +kernel
theorem dX10_init_103 : decode cX10_init 103 = .ok (.getfield 10, 3) := by decide +kernel
theorem dX10_init_106 : decode cX10_init 106 = .ok (.aload_n 0, 1) := by decide +kernel
theorem dX10_init_107 : decode cX10_init 107 = .ok (.getfield 26, 3) := by decide +kernel
theorem dX10_init_110 : decode cX10_init 110 = .ok (.invokespecial 64, 3) := by decide +kernel
theorem dX10_init_113 : decode cX10_init 113 = .ok (.putfield 65, 3) := by decide +kernel
theorem dX10_init_116 : decode cX10_init 116 = .ok (.aload_n 0, 1) := by decide +kernel
theorem dX10_init_117 : decode cX10_init 117 = .ok (.new 69, 3) := by decide +kernel
theorem dX10_init_120 : decode cX10_init 120 = .ok (.dup, 1) := by decide +kernel
theorem dX10_init_121 : decode cX10_init 121 = .ok (.aload_n 0, 1) := by decide +kernel
theorem dX10_init_122 : decode cX10_init 122 = .ok (.getfield 10, 3) := by decide +kernel
theorem dX10_init_125 : decode cX10_init 125 = .ok (.aload_n 0, 1) := by decide +kernel
theorem dX10_init_126 : decode cX10_init 126 = .ok (.getfield 33, 3) := by decide +kernel
theorem dX10_init_129 : decode cX10_init 129 = .ok (.invokespecial 71, 3) := by decide +kernel
theorem dX10_init_132 : decode cX10_init 132 = .ok (.putfield 74, 3) := by decide +kernel
theorem dX10_init_135 : decode cX10_init 135 = .ok (.return_, 1) := by decide +kernel
theorem dX10_letters_0 : decode cX10_letters 0 = .ok (.iload_n 1, 1) := by decide +kernel
theorem dX10_letters_1 : decode cX10_letters 1 = .ok (.iconst 2, 1) := by decide +kernel
theorem dX10_letters_2 : decode cX10_letters 2 = .ok (.if_icmp .lt 28, 3) := by decide +kernel
theorem dX10_letters_5 : decode cX10_letters 5 = .ok (.iload_n 1, 1) := by decide +kernel
theorem dX10_letters_6 : decode cX10_letters 6 = .ok (.iconst 4, 1) := by decide +kernel
theorem dX10_letters_7 : decode cX10_letters 7 = .ok (.if_icmp .gt 23, 3) := by decide +kernel
theorem dX10_letters_10 : decode cX10_letters 10 = .ok (.aload_n 0, 1) := by decide +kernel
theorem dX10_letters_11 : decode cX10_letters 11 = .ok (.getfield 26, 3) := by decide +kernel
theorem dX10_letters_14 : decode cX10_letters 14 = .ok (.getfield 78, 3) := by decide +kernel
theorem dX10_letters_17 : decode cX10_letters 17 = .ok (.ifCond .gt 13, 3) := by decide +kernel
theorem dX10_letters_20 : decode cX10_letters 20 = .ok (.aload_n 0, 1) := by decide +kernel
theorem dX10_letters_21 : decode cX10_letters 21 = .ok (.getfield 33, 3) := by decide +kernel
theorem dX10_letters_24 : decode cX10_letters 24 = .ok (.getfield 82, 3) := by decide +kernel
theorem dX10_letters_27 : decode cX10_letters 27 = .ok (.ifCond .le 5, 3) := by decide +kernel
theorem dX10_letters_30 : decode cX10_letters 30 = .ok (.iconst 0, 1) := by decide +kernel
theorem dX10_letters_31 : decode cX10_letters 31 = .ok (.ireturn, 1) := by decide +kernel
theorem dX10_letters_32 : decode cX10_letters 32 = .ok (.aload_n 0, 1) := by decide +kernel
theorem dX10_letters_33 : decode cX10_letters 33 = .ok (.getfield 10, 3) := by decide +kernel
theorem dX10_letters_36 : decode cX10_letters 36 = .ok (.iload_n 1, 1) := by decide +kernel
theorem dX10_letters_37 : decode cX10_letters 37 = .ok (.putfield 83, 3) := by decide +kernel
theorem dX10_letters_40 : decode cX10_letters 40 = .ok (.iconst 1, 1) := by decide +kernel
theorem dX10_letters_41 : decode cX10_letters 41 = .ok (.ireturn, 1) := by decide +kernel
theorem dX10_cost_0 : decode cX10_cost 0 = .ok (.iload_n 1, 1) := by decide +kernel
theorem dX10_cost_1 : decode cX10_cost 1 = .ok (.invokestatic 86, 3) := by decide +kernel
theorem dX10_cost_4 : decode cX10_cost 4 = .ok (.ifCond .eq 26, 3) := by decide +kernel
theorem dX10_cost_7 : decode cX10_cost 7 = .ok (.iload_n 2, 1) := by decide +kernel
theorem dX10_cost_8 : decode cX10_cost 8 = .ok (.invokestatic 86, 3) := by decide +kernel
theorem dX10_cost_11 : decode cX10_cost 11 = .ok (.ifCond .eq 19, 3) := by decide +kernel
theorem dX10_cost_14 : decode cX10_cost 14 = .ok (.iload_n 1, 1) := by decide +kernel
theorem dX10_cost_15 : decode cX10_cost 15 = .ok (.iload_n 2, 1) := by decide +kernel
theorem dX10_cost_16 : decode cX10_cost 16 = .ok (.if_icmp .eq 14, 3) := by decide +kernel
theorem dX10_cost_19 : decode cX10_cost 19 = .ok (.iload_n 3, 1) := by decide +kernel
theorem dX10_cost_20 : decode cX10_cost 20 = .ok (.iconst 1, 1) := by decide +kernel
theorem dX10_cost_21 : decode cX10_cost 21 = .ok (.if_icmp .lt 9, 3) := by decide +kernel
theorem dX10_cost_24 : decode cX10_cost 24 = .ok (.iload_n 3, 1) := by decide +kernel
theorem dX10_cost_25 : decode cX10_cost 25 = .ok (.bipush 9, 2) := by decide +kernel
theorem dX10_cost_27 : decode cX10_cost 27 = .ok (.if_icmp .le 5, 3) := by decide +kernel
theorem dX10_cost_30 : decode cX10_cost 30 = .ok (.iconst 0, 1) := by decide +kernel
theorem dX10_cost_31 : decode cX10_cost 31 = .ok (.ireturn, 1) := by decide +kernel
theorem dX10_cost_32 : decode cX10_cost 32 = .ok (.aload_n 0, 1) := by decide +kernel
theorem dX10_cost_33 : decode cX10_cost 33 = .ok (.getfield 10, 3) := by decide +kernel
theorem dX10_cost_36 : decode cX10_cost 36 = .ok (.iload_n 1, 1) := by decide +kernel
theorem dX10_cost_37 : decode cX10_cost 37 = .ok (.iload_n 2, 1) := by decide +kernel
theorem dX10_cost_38 : decode cX10_cost 38 = .ok (.iload_n 3, 1) := by decide +kernel
theorem dX10_cost_39 : decode cX10_cost 39 = .ok (.invokevirtual 90, 3) := by decide +kernel
theorem dX10_cost_42 : decode cX10_cost 42 = .ok (.aload_n 0, 1) := by decide +kernel
theorem dX10_cost_43 : decode cX10_cost 43 = .ok (.invokevirtual 94, 3) := by decide +kernel
theorem dX10_cost_46 : decode cX10_cost 46 = .ok (.aload_n 0, 1) := by decide +kernel
theorem dX10_cost_47 : decode cX10_cost 47 = .ok (.getfield 65, 3) := by decide +kernel
theorem dX10_cost_50 : decode cX10_cost 50 = .ok (.iconst 0, 1) := by decide +kernel
theorem dX10_cost_51 : decode cX10_cost 51 = .ok (.putfield 97, 3) := by decide +kernel
theorem dX10_cost_54 : decode cX10_cost 54 = .ok (.iconst 1, 1) := by decide +kernel
theorem dX10_cost_55 : decode cX10_cost 55 = .ok (.ireturn, 1) := by decide +kernel
theorem dX10_swap_0 : decode cX10_swap 0 = .ok (.iload_n 1, 1) := by decide +kernel
theorem dX10_swap_1 : decode cX10_swap 1 = .ok (.ifCond .lt 9, 3) := by decide +kernel
theorem dX10_swap_4 : decode cX10_swap 4 = .ok (.iload_n 1, 1) := by decide +kernel
theorem dX10_swap_5 : decode cX10_swap 5 = .ok (.bipush 9, 2) := by decide +kernel
theorem dX10_swap_7 : decode cX10_swap 7 = .ok (.if_icmp .le 5, 3) := by decide +kernel
theorem dX10_swap_10 : decode cX10_swap 10 = .ok (.iconst 0, 1) := by decide +kernel
theorem dX10_swap_11 : decode cX10_swap 11 = .ok (.ireturn, 1) := by decide +kernel
theorem dX10_swap_12 : decode cX10_swap 12 = .ok (.aload_n 0, 1) := by decide +kernel
theorem dX10_swap_13 : decode cX10_swap 13 = .ok (.getfield 10, 3) := by decide +kernel
theorem dX10_swap_16 : decode cX10_swap 16 = .ok (.iload_n 1, 1) := by decide +kernel
theorem dX10_swap_17 : decode cX10_swap 17 = .ok (.putfield 101, 3) := by decide +kernel
theorem dX10_swap_20 : decode cX10_swap 20 = .ok (.aload_n 0, 1) := by decide +kernel
theorem dX10_swap_21 : decode cX10_swap 21 = .ok (.invokevirtual 94, 3) := by decide +kernel
theorem dX10_swap_24 : decode cX10_swap 24 = .ok (.iconst 1, 1) := by decide +kernel
theorem dX10_swap_25 : decode cX10_swap 25 = .ok (.ireturn, 1) := by decide +kernel
theorem dX10_drop_0 : decode cX10_drop 0 = .ok (.iload_n 1, 1) := by decide +kernel
theorem dX10_drop_1 : decode cX10_drop 1 = .ok (.iconst 1, 1) := by decide +kernel
theorem dX10_drop_2 : decode cX10_drop 2 = .ok (.if_icmp .lt 9, 3) := by decide +kernel
theorem dX10_drop_5 : decode cX10_drop 5 = .ok (.iload_n 1, 1) := by decide +kernel
theorem dX10_drop_6 : decode cX10_drop 6 = .ok (.bipush 9, 2) := by decide +kernel
theorem dX10_drop_8 : decode cX10_drop 8 = .ok (.if_icmp .le 5, 3) := by decide +kernel
theorem dX10_drop_11 : decode cX10_drop 11 = .ok (.iconst 0, 1) := by decide +kernel
theorem dX10_drop_12 : decode cX10_drop 12 = .ok (.ireturn, 1) := by decide +kernel
theorem dX10_drop_13 : decode cX10_drop 13 = .ok (.aload_n 0, 1) := by decide +kernel
theorem dX10_drop_14 : decode cX10_drop 14 = .ok (.getfield 10, 3) := by decide +kernel
theorem dX10_drop_17 : decode cX10_drop 17 = .ok (.iload_n 1, 1) := by decide +kernel
theorem dX10_drop_18 : decode cX10_drop 18 = .ok (.putfield 104, 3) := by decide +kernel
theorem dX10_drop_21 : decode cX10_drop 21 = .ok (.aload_n 0, 1) := by decide +kernel
theorem dX10_drop_22 : decode cX10_drop 22 = .ok (.getfield 65, 3) := by decide +kernel
theorem dX10_drop_25 : decode cX10_drop 25 = .ok (.iconst 0, 1) := by decide +kernel
theorem dX10_drop_26 : decode cX10_drop 26 = .ok (.putfield 97, 3) := by decide +kernel
theorem dX10_drop_29 : decode cX10_drop 29 = .ok (.iconst 1, 1) := by decide +kernel
theorem dX10_drop_30 : decode cX10_drop 30 = .ok (.ireturn, 1) := by decide +kernel
theorem dX10_gap_0 : decode cX10_gap 0 = .ok (.iload_n 1, 1) := by decide +kernel
theorem dX10_gap_1 : decode cX10_gap 1 = .ok (.ifCond .lt 9, 3) := by decide +kernel
theorem dX10_gap_4 : decode cX10_gap 4 = .ok (.iload_n 1, 1) := by decide +kernel
theorem dX10_gap_5 : decode cX10_gap 5 = .ok (.bipush 63, 2) := by decide +kernel
theorem dX10_gap_7 : decode cX10_gap 7 = .ok (.if_icmp .le 5, 3) := by decide +kernel
theorem dX10_gap_10 : decode cX10_gap 10 = .ok (.iconst 0, 1) := by decide +kernel
theorem dX10_gap_11 : decode cX10_gap 11 = .ok (.ireturn, 1) := by decide +kernel
theorem dX10_gap_12 : decode cX10_gap 12 = .ok (.aload_n 0, 1) := by decide +kernel
theorem dX10_gap_13 : decode cX10_gap 13 = .ok (.getfield 10, 3) := by decide +kernel
theorem dX10_gap_16 : decode cX10_gap 16 = .ok (.iload_n 1, 1) := by decide +kernel
theorem dX10_gap_17 : decode cX10_gap 17 = .ok (.putfield 107, 3) := by decide +kernel
theorem dX10_gap_20 : decode cX10_gap 20 = .ok (.aload_n 0, 1) := by decide +kernel
theorem dX10_gap_21 : decode cX10_gap 21 = .ok (.invokevirtual 110, 3) := by decide +kernel
theorem dX10_gap_24 : decode cX10_gap 24 = .ok (.iconst 1, 1) := by decide +kernel
theorem dX10_gap_25 : decode cX10_gap 25 = .ok (.ireturn, 1) := by decide +kernel
theorem dX10_feed_0 : decode cX10_feed 0 = .ok (.aload_n 0, 1) := by decide +kernel
theorem dX10_feed_1 : decode cX10_feed 1 = .ok (.getfield 19, 3) := by decide +kernel
theorem dX10_feed_4 : decode cX10_feed 4 = .ok (.getfield 113, 3) := by decide +kernel
theorem dX10_feed_7 : decode cX10_feed 7 = .ok (.bipush 20, 2) := by decide +kernel
theorem dX10_feed_9 : decode cX10_feed 9 = .ok (.iadd, 1) := by decide +kernel
theorem dX10_feed_10 : decode cX10_feed 10 = .ok (.bipush 40, 2) := by decide +kernel
theorem dX10_feed_12 : decode cX10_feed 12 = .ok (.if_icmp .le 5, 3) := by decide +kernel
theorem dX10_feed_15 : decode cX10_feed 15 = .ok (.iconst (-1), 1) := by decide +kernel
theorem dX10_feed_16 : decode cX10_feed 16 = .ok (.ireturn, 1) := by decide +kernel
theorem dX10_feed_17 : decode cX10_feed 17 = .ok (.aload_n 0, 1) := by decide +kernel
theorem dX10_feed_18 : decode cX10_feed 18 = .ok (.getfield 19, 3) := by decide +kernel
theorem dX10_feed_21 : decode cX10_feed 21 = .ok (.iload_n 1, 1) := by decide +kernel
theorem dX10_feed_22 : decode cX10_feed 22 = .ok (.invokevirtual 114, 3) := by decide +kernel
theorem dX10_feed_25 : decode cX10_feed 25 = .ok (.aload_n 0, 1) := by decide +kernel
theorem dX10_feed_26 : decode cX10_feed 26 = .ok (.getfield 19, 3) := by decide +kernel
theorem dX10_feed_29 : decode cX10_feed 29 = .ok (.iload_n 2, 1) := by decide +kernel
theorem dX10_feed_30 : decode cX10_feed 30 = .ok (.invokevirtual 114, 3) := by decide +kernel
theorem dX10_feed_33 : decode cX10_feed 33 = .ok (.aload_n 0, 1) := by decide +kernel
theorem dX10_feed_34 : decode cX10_feed 34 = .ok (.getfield 19, 3) := by decide +kernel
theorem dX10_feed_37 : decode cX10_feed 37 = .ok (.iload_n 3, 1) := by decide +kernel
theorem dX10_feed_38 : decode cX10_feed 38 = .ok (.invokevirtual 114, 3) := by decide +kernel
theorem dX10_feed_41 : decode cX10_feed 41 = .ok (.aload_n 0, 1) := by decide +kernel
theorem dX10_feed_42 : decode cX10_feed 42 = .ok (.getfield 19, 3) := by decide +kernel
theorem dX10_feed_45 : decode cX10_feed 45 = .ok (.iload 4, 2) := by decide +kernel
theorem dX10_feed_47 : decode cX10_feed 47 = .ok (.invokevirtual 114, 3) := by decide +kernel
theorem dX10_feed_50 : decode cX10_feed 50 = .ok (.aload_n 0, 1) := by decide +kernel
theorem dX10_feed_51 : decode cX10_feed 51 = .ok (.getfield 19, 3) := by decide +kernel
theorem dX10_feed_54 : decode cX10_feed 54 = .ok (.iload 5, 2) := by decide +kernel
theorem dX10_feed_56 : decode cX10_feed 56 = .ok (.invokevirtual 114, 3) := by decide +kernel
theorem dX10_feed_59 : decode cX10_feed 59 = .ok (.aload_n 0, 1) := by decide +kernel
theorem dX10_feed_60 : decode cX10_feed 60 = .ok (.getfield 19, 3) := by decide +kernel
theorem dX10_feed_63 : decode cX10_feed 63 = .ok (.getfield 113, 3) := by decide +kernel
theorem dX10_feed_66 : decode cX10_feed 66 = .ok (.ireturn, 1) := by decide +kernel
theorem dX10_end_0 : decode cX10_end 0 = .ok (.iload_n 1, 1) := by decide +kernel
theorem dX10_end_1 : decode cX10_end 1 = .ok (.ifCond .lt 14, 3) := by decide +kernel
theorem dX10_end_4 : decode cX10_end 4 = .ok (.iload_n 1, 1) := by decide +kernel
theorem dX10_end_5 : decode cX10_end 5 = .ok (.aload_n 0, 1) := by decide +kernel
theorem dX10_end_6 : decode cX10_end 6 = .ok (.getfield 19, 3) := by decide +kernel
theorem dX10_end_9 : decode cX10_end 9 = .ok (.getfield 113, 3) := by decide +kernel
theorem dX10_end_12 : decode cX10_end 12 = .ok (.if_icmp .le 5, 3) := by decide +kernel
theorem dX10_end_15 : decode cX10_end 15 = .ok (.iconst (-1), 1) := by decide +kernel
theorem dX10_end_16 : decode cX10_end 16 = .ok (.ireturn, 1) := by decide +kernel
theorem dX10_end_17 : decode cX10_end 17 = .ok (.aload_n 0, 1) := by decide +kernel
theorem dX10_end_18 : decode cX10_end 18 = .ok (.getfield 19, 3) := by decide +kernel
theorem dX10_end_21 : decode cX10_end 21 = .ok (.iload_n 1, 1) := by decide +kernel
theorem dX10_end_22 : decode cX10_end 22 = .ok (.putfield 113, 3) := by decide +kernel
theorem dX10_end_25 : decode cX10_end 25 = .ok (.iload_n 1, 1) := by decide +kernel
theorem dX10_end_26 : decode cX10_end 26 = .ok (.ireturn, 1) := by decide +kernel
theorem dX10_word_0 : decode cX10_word 0 = .ok (.aload_n 0, 1) := by decide +kernel
theorem dX10_word_1 : decode cX10_word 1 = .ok (.getfield 19, 3) := by decide +kernel
theorem dX10_word_4 : decode cX10_word 4 = .ok (.aload_n 0, 1) := by decide +kernel
theorem dX10_word_5 : decode cX10_word 5 = .ok (.getfield 10, 3) := by decide +kernel
theorem dX10_word_8 : decode cX10_word 8 = .ok (.getfield 83, 3) := by decide +kernel
theorem dX10_word_11 : decode cX10_word 11 = .ok (.invokevirtual 118, 3) := by decide +kernel
theorem dX10_word_14 : decode cX10_word 14 = .ok (.istore_n 1, 1) := by decide +kernel
theorem dX10_word_15 : decode cX10_word 15 = .ok (.iload_n 1, 1) := by decide +kernel
theorem dX10_word_16 : decode cX10_word 16 = .ok (.iconst 1, 1) := by decide +kernel
theorem dX10_word_17 : decode cX10_word 17 = .ok (.if_icmp .lt 21, 3) := by decide +kernel
theorem dX10_word_20 : decode cX10_word 20 = .ok (.iload_n 1, 1) := by decide +kernel
theorem dX10_word_21 : decode cX10_word 21 = .ok (.bipush 7, 2) := by decide +kernel
theorem dX10_word_23 : decode cX10_word 23 = .ok (.if_icmp .gt 15, 3) := by decide +kernel
theorem dX10_word_26 : decode cX10_word 26 = .ok (.aload_n 0, 1) := by decide +kernel
theorem dX10_word_27 : decode cX10_word 27 = .ok (.getfield 26, 3) := by decide +kernel
theorem dX10_word_30 : decode cX10_word 30 = .ok (.getfield 78, 3) := by decide +kernel
theorem dX10_word_33 : decode cX10_word 33 = .ok (.bipush 8, 2) := by decide +kernel
theorem dX10_word_35 : decode cX10_word 35 = .ok (.if_icmp .lt 5, 3) := by decide +kernel
theorem dX10_word_38 : decode cX10_word 38 = .ok (.iconst (-1), 1) := by decide +kernel
theorem dX10_word_39 : decode cX10_word 39 = .ok (.ireturn, 1) := by decide +kernel
theorem dX10_word_40 : decode cX10_word 40 = .ok (.aload_n 0, 1) := by decide +kernel
theorem dX10_word_41 : decode cX10_word 41 = .ok (.getfield 26, 3) := by decide +kernel
theorem dX10_word_44 : decode cX10_word 44 = .ok (.getfield 78, 3) := by decide +kernel
theorem dX10_word_47 : decode cX10_word 47 = .ok (.ifCond .le 16, 3) := by decide +kernel
theorem dX10_word_50 : decode cX10_word 50 = .ok (.iload_n 1, 1) := by decide +kernel
theorem dX10_word_51 : decode cX10_word 51 = .ok (.aload_n 0, 1) := by decide +kernel
theorem dX10_word_52 : decode cX10_word 52 = .ok (.getfield 26, 3) := by decide +kernel
theorem dX10_word_55 : decode cX10_word 55 = .ok (.getfield 122, 3) := by decide +kernel
theorem dX10_word_58 : decode cX10_word 58 = .ok (.if_icmp .eq 5, 3) := by decide +kernel
theorem dX10_word_61 : decode cX10_word 61 = .ok (.iconst (-1), 1) := by decide +kernel
theorem dX10_word_62 : decode cX10_word 62 = .ok (.ireturn, 1) := by decide +kernel
theorem dX10_word_63 : decode cX10_word 63 = .ok (.aload_n 0, 1) := by decide +kernel
theorem dX10_word_64 : decode cX10_word 64 = .ok (.getfield 26, 3) := by decide +kernel
theorem dX10_word_67 : decode cX10_word 67 = .ok (.aload_n 0, 1) := by decide +kernel
theorem dX10_word_68 : decode cX10_word 68 = .ok (.getfield 19, 3) := by decide +kernel
theorem dX10_word_71 : decode cX10_word 71 = .ok (.getfield 125, 3) := by decide +kernel
theorem dX10_word_74 : decode cX10_word 74 = .ok (.iload_n 1, 1) := by decide +kernel
theorem dX10_word_75 : decode cX10_word 75 = .ok (.invokevirtual 129, 3) := by decide +kernel
theorem dX10_word_78 : decode cX10_word 78 = .ok (.aload_n 0, 1) := by decide +kernel
theorem dX10_word_79 : decode cX10_word 79 = .ok (.invokevirtual 132, 3) := by decide +kernel
theorem dX10_word_82 : decode cX10_word 82 = .ok (.aload_n 0, 1) := by decide +kernel
theorem dX10_word_83 : decode cX10_word 83 = .ok (.getfield 26, 3) := by decide +kernel
theorem dX10_word_86 : decode cX10_word 86 = .ok (.getfield 78, 3) := by decide +kernel
theorem dX10_word_89 : decode cX10_word 89 = .ok (.iconst 1, 1) := by decide +kernel
theorem dX10_word_90 : decode cX10_word 90 = .ok (.isub, 1) := by decide +kernel
theorem dX10_word_91 : decode cX10_word 91 = .ok (.ireturn, 1) := by decide +kernel
theorem dX10_text_0 : decode cX10_text 0 = .ok (.aload_n 0, 1) := by decide +kernel
theorem dX10_text_1 : decode cX10_text 1 = .ok (.getfield 19, 3) := by decide +kernel
theorem dX10_text_4 : decode cX10_text 4 = .ok (.aload_n 0, 1) := by decide +kernel
theorem dX10_text_5 : decode cX10_text 5 = .ok (.getfield 10, 3) := by decide +kernel
theorem dX10_text_8 : decode cX10_text 8 = .ok (.getfield 83, 3) := by decide +kernel
theorem dX10_text_11 : decode cX10_text 11 = .ok (.invokevirtual 118, 3) := by decide +kernel
theorem dX10_text_14 : decode cX10_text 14 = .ok (.istore_n 1, 1) := by decide +kernel
theorem dX10_text_15 : decode cX10_text 15 = .ok (.iload_n 1, 1) := by decide +kernel
theorem dX10_text_16 : decode cX10_text 16 = .ok (.iconst 1, 1) := by decide +kernel
theorem dX10_text_17 : decode cX10_text 17 = .ok (.if_icmp .lt 20, 3) := by decide +kernel
theorem dX10_text_20 : decode cX10_text 20 = .ok (.iload_n 1, 1) := by decide +kernel
theorem dX10_text_21 : decode cX10_text 21 = .ok (.bipush 24, 2) := by decide +kernel
theorem dX10_text_23 : decode cX10_text 23 = .ok (.if_icmp .gt 14, 3) := by decide +kernel
theorem dX10_text_26 : decode cX10_text 26 = .ok (.aload_n 0, 1) := by decide +kernel
theorem dX10_text_27 : decode cX10_text 27 = .ok (.getfield 33, 3) := by decide +kernel
theorem dX10_text_30 : decode cX10_text 30 = .ok (.getfield 82, 3) := by decide +kernel
theorem dX10_text_33 : decode cX10_text 33 = .ok (.iconst 5, 1) := by decide +kernel
theorem dX10_text_34 : decode cX10_text 34 = .ok (.if_icmp .lt 5, 3) := by decide +kernel
theorem dX10_text_37 : decode cX10_text 37 = .ok (.iconst (-1), 1) := by decide +kernel
theorem dX10_text_38 : decode cX10_text 38 = .ok (.ireturn, 1) := by decide +kernel
theorem dX10_text_39 : decode cX10_text 39 = .ok (.aload_n 0, 1) := by decide +kernel
theorem dX10_text_40 : decode cX10_text 40 = .ok (.getfield 33, 3) := by decide +kernel
theorem dX10_text_43 : decode cX10_text 43 = .ok (.aload_n 0, 1) := by decide +kernel
theorem dX10_text_44 : decode cX10_text 44 = .ok (.getfield 19, 3) := by decide +kernel
theorem dX10_text_47 : decode cX10_text 47 = .ok (.getfield 125, 3) := by decide +kernel
theorem dX10_text_50 : decode cX10_text 50 = .ok (.iload_n 1, 1) := by decide +kernel
theorem dX10_text_51 : decode cX10_text 51 = .ok (.invokevirtual 135, 3) := by decide +kernel
theorem dX10_text_54 : decode cX10_text 54 = .ok (.aload_n 0, 1) := by decide +kernel
theorem dX10_text_55 : decode cX10_text 55 = .ok (.getfield 74, 3) := by decide +kernel
theorem dX10_text_58 : decode cX10_text 58 = .ok (.invokevirtual 136, 3) := by decide +kernel
theorem dX10_text_61 : decode cX10_text 61 = .ok (.aload_n 0, 1) := by decide +kernel
theorem dX10_text_62 : decode cX10_text 62 = .ok (.getfield 33, 3) := by decide +kernel
theorem dX10_text_65 : decode cX10_text 65 = .ok (.getfield 82, 3) := by decide +kernel
theorem dX10_text_68 : decode cX10_text 68 = .ok (.iconst 1, 1) := by decide +kernel
theorem dX10_text_69 : decode cX10_text 69 = .ok (.isub, 1) := by decide +kernel
theorem dX10_text_70 : decode cX10_text 70 = .ok (.ireturn, 1) := by decide +kernel
theorem dX10_part_0 : decode cX10_part 0 = .ok (.aload_n 0, 1) := by decide +kernel
theorem dX10_part_1 : decode cX10_part 1 = .ok (.getfield 26, 3) := by decide +kernel
theorem dX10_part_4 : decode cX10_part 4 = .ok (.iload_n 1, 1) := by decide +kernel
theorem dX10_part_5 : decode cX10_part 5 = .ok (.invokevirtual 139, 3) := by decide +kernel
theorem dX10_part_8 : decode cX10_part 8 = .ok (.ifCond .eq 12, 3) := by decide +kernel
theorem dX10_part_11 : decode cX10_part 11 = .ok (.iload_n 2, 1) := by decide +kernel
theorem dX10_part_12 : decode cX10_part 12 = .ok (.ifCond .lt 8, 3) := by decide +kernel
