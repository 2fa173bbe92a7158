theorem dX11_init_102 : decode cX11_init 102 = .ok (.aload_n 0, 1) := by decide +kernel
theorem dX11_init_103 : decode cX11_init 103 = .ok (.sipush 256, 3) := by decide +kernel
theorem dX11_init_106 : decode cX11_init 106 = .ok (.newarray .int, 2) := by decide +kernel
theorem dX11_init_108 : decode cX11_init 108 = .ok (.putfield 56, 3) := by decide +kernel
theorem dX11_init_111 : decode cX11_init 111 = .ok (.aload_n 0, 1) := by decide +kernel
theorem dX11_init_112 : decode cX11_init 112 = .ok (.bipush 81, 2) := by decide +kernel
theorem dX11_init_114 : decode cX11_init 114 = .ok (.newarray .int, 2) := by decide +kernel
theorem dX11_init_116 : decode cX11_init 116 = .ok (.putfield 59, 3) := by decide +kernel
theorem dX11_init_119 : decode cX11_init 119 = .ok (.aload_n 0, 1) := by decide +kernel
theorem dX11_init_120 : decode cX11_init 120 = .ok (.sipush 648, 3) := by decide +kernel
theorem dX11_init_123 : decode cX11_init 123 = .ok (.newarray .int, 2) := by decide +kernel
theorem dX11_init_125 : decode cX11_init 125 = .ok (.putfield 62, 3) := by decide +kernel
theorem dX11_init_128 : decode cX11_init 128 = .ok (.aload_n 0, 1) := by decide +kernel
theorem dX11_init_129 : decode cX11_init 129 = .ok (.bipush 8, 2) := by decide +kernel
theorem dX11_init_131 : decode cX11_init 131 = .ok (.newarray .byte, 2) := by decide +kernel
theorem dX11_init_133 : decode cX11_init 133 = .ok (.putfield 65, 3) := by decide +kernel
theorem dX11_init_136 : decode cX11_init 136 = .ok (.aload_n 0, 1) := by decide +kernel
theorem dX11_init_137 : decode cX11_init 137 = .ok (.bipush 8, 2) := by decide +kernel
theorem dX11_init_139 : decode cX11_init 139 = .ok (.newarray .byte, 2) := by decide +kernel
theorem dX11_init_141 : decode cX11_init 141 = .ok (.putfield 68, 3) := by decide +kernel
theorem dX11_init_144 : decode cX11_init 144 = .ok (.iconst 0, 1) := by decide +kernel
theorem dX11_init_145 : decode cX11_init 145 = .ok (.istore_n 1, 1) := by decide +kernel
theorem dX11_init_146 : decode cX11_init 146 = .ok (.iload_n 1, 1) := by decide +kernel
theorem dX11_init_147 : decode cX11_init 147 = .ok (.bipush 16, 2) := by decide +kernel
theorem dX11_init_149 : decode cX11_init 149 = .ok (.if_icmp .ge 29, 3) := by decide +kernel
theorem dX11_init_152 : decode cX11_init 152 = .ok (.aload_n 0, 1) := by decide +kernel
theorem dX11_init_153 : decode cX11_init 153 = .ok (.getfield 16, 3) := by decide +kernel
theorem dX11_init_156 : decode cX11_init 156 = .ok (.iload_n 1, 1) := by decide +kernel
theorem dX11_init_157 : decode cX11_init 157 = .ok (.iload_n 1, 1) := by decide +kernel
theorem dX11_init_158 : decode cX11_init 158 = .ok (.iconst 4, 1) := by decide +kernel
theorem dX11_init_159 : decode cX11_init 159 = .ok (.idiv, 1) := by decide +kernel
theorem dX11_init_160 : decode cX11_init 160 = .ok (.iload_n 1, 1) := by decide +kernel
theorem dX11_init_161 : decode cX11_init 161 = .ok (.iconst 4, 1) := by decide +kernel
theorem dX11_init_162 : decode cX11_init 162 = .ok (.irem, 1) := by decide +kernel
theorem dX11_init_163 : decode cX11_init 163 = .ok (.if_icmp .ne 7, 3) := by decide +kernel
theorem dX11_init_166 : decode cX11_init 166 = .ok (.iconst 0, 1) := by decide +kernel
theorem dX11_init_167 : decode cX11_init 167 = .ok (.goto 4, 3) := by decide +kernel
theorem dX11_init_170 : decode cX11_init 170 = .ok (.iconst 1, 1) := by decide +kernel
theorem dX11_init_171 : decode cX11_init 171 = .ok (.iastore, 1) := by decide +kernel
theorem dX11_init_172 : decode cX11_init 172 = .ok (.iinc 1 1, 3) := by decide +kernel
theorem dX11_init_175 : decode cX11_init 175 = .ok (.goto (-29), 3) := by decide +kernel
theorem dX11_init_178 : decode cX11_init 178 = .ok (.return_, 1) := by decide +kernel
theorem dX11_changes_0 : decode cX11_changes 0 = .ok (.aload_n 0, 1) := by decide +kernel
theorem dX11_changes_1 : decode cX11_changes 1 = .ok (.iconst 0, 1) := by decide +kernel
theorem dX11_changes_2 : decode cX11_changes 2 = .ok (.putfield 71, 3) := by decide +kernel
theorem dX11_changes_5 : decode cX11_changes 5 = .ok (.aload_n 0, 1) := by decide +kernel
theorem dX11_changes_6 : decode cX11_changes 6 = .ok (.iconst 0, 1) := by decide +kernel
theorem dX11_changes_7 : decode cX11_changes 7 = .ok (.putfield 75, 3) := by decide +kernel
theorem dX11_changes_10 : decode cX11_changes 10 = .ok (.aload_n 0, 1) := by decide +kernel
theorem dX11_changes_11 : decode cX11_changes 11 = .ok (.iconst 0, 1) := by decide +kernel
theorem dX11_changes_12 : decode cX11_changes 12 = .ok (.putfield 78, 3) := by decide +kernel
theorem dX11_changes_15 : decode cX11_changes 15 = .ok (.return_, 1) := by decide +kernel
theorem dX11_letters_0 : decode cX11_letters 0 = .ok (.aload_n 0, 1) := by decide +kernel
theorem dX11_letters_1 : decode cX11_letters 1 = .ok (.iconst 0, 1) := by decide +kernel
theorem dX11_letters_2 : decode cX11_letters 2 = .ok (.putfield 1, 3) := by decide +kernel
theorem dX11_letters_5 : decode cX11_letters 5 = .ok (.iload_n 1, 1) := by decide +kernel
theorem dX11_letters_6 : decode cX11_letters 6 = .ok (.iconst 2, 1) := by decide +kernel
theorem dX11_letters_7 : decode cX11_letters 7 = .ok (.iconst 4, 1) := by decide +kernel
theorem dX11_letters_8 : decode cX11_letters 8 = .ok (.invokestatic 81, 3) := by decide +kernel
theorem dX11_letters_11 : decode cX11_letters 11 = .ok (.ifCond .eq 17, 3) := by decide +kernel
theorem dX11_letters_14 : decode cX11_letters 14 = .ok (.aload_n 0, 1) := by decide +kernel
theorem dX11_letters_15 : decode cX11_letters 15 = .ok (.getfield 85, 3) := by decide +kernel
theorem dX11_letters_18 : decode cX11_letters 18 = .ok (.ifCond .gt 10, 3) := by decide +kernel
theorem dX11_letters_21 : decode cX11_letters 21 = .ok (.aload_n 0, 1) := by decide +kernel
theorem dX11_letters_22 : decode cX11_letters 22 = .ok (.getfield 88, 3) := by decide +kernel
theorem dX11_letters_25 : decode cX11_letters 25 = .ok (.ifCond .le 5, 3) := by decide +kernel
theorem dX11_letters_28 : decode cX11_letters 28 = .ok (.iconst 0, 1) := by decide +kernel
theorem dX11_letters_29 : decode cX11_letters 29 = .ok (.ireturn, 1) := by decide +kernel
theorem dX11_letters_30 : decode cX11_letters 30 = .ok (.aload_n 0, 1) := by decide +kernel
theorem dX11_letters_31 : decode cX11_letters 31 = .ok (.iload_n 1, 1) := by decide +kernel
theorem dX11_letters_32 : decode cX11_letters 32 = .ok (.putfield 13, 3) := by decide +kernel
theorem dX11_letters_35 : decode cX11_letters 35 = .ok (.iconst 1, 1) := by decide +kernel
theorem dX11_letters_36 : decode cX11_letters 36 = .ok (.ireturn, 1) := by decide +kernel
theorem dX11_cost_0 : decode cX11_cost 0 = .ok (.aload_n 0, 1) := by decide +kernel
theorem dX11_cost_1 : decode cX11_cost 1 = .ok (.iconst 0, 1) := by decide +kernel
theorem dX11_cost_2 : decode cX11_cost 2 = .ok (.putfield 1, 3) := by decide +kernel
theorem dX11_cost_5 : decode cX11_cost 5 = .ok (.iload_n 1, 1) := by decide +kernel
theorem dX11_cost_6 : decode cX11_cost 6 = .ok (.iconst 0, 1) := by decide +kernel
theorem dX11_cost_7 : decode cX11_cost 7 = .ok (.iconst 3, 1) := by decide +kernel
theorem dX11_cost_8 : decode cX11_cost 8 = .ok (.invokestatic 81, 3) := by decide +kernel
theorem dX11_cost_11 : decode cX11_cost 11 = .ok (.ifCond .eq 27, 3) := by decide +kernel
theorem dX11_cost_14 : decode cX11_cost 14 = .ok (.iload_n 2, 1) := by decide +kernel
theorem dX11_cost_15 : decode cX11_cost 15 = .ok (.iconst 0, 1) := by decide +kernel
theorem dX11_cost_16 : decode cX11_cost 16 = .ok (.iconst 3, 1) := by decide +kernel
theorem dX11_cost_17 : decode cX11_cost 17 = .ok (.invokestatic 81, 3) := by decide +kernel
theorem dX11_cost_20 : decode cX11_cost 20 = .ok (.ifCond .eq 18, 3) := by decide +kernel
theorem dX11_cost_23 : decode cX11_cost 23 = .ok (.iload_n 1, 1) := by decide +kernel
theorem dX11_cost_24 : decode cX11_cost 24 = .ok (.iload_n 2, 1) := by decide +kernel
theorem dX11_cost_25 : decode cX11_cost 25 = .ok (.if_icmp .eq 13, 3) := by decide +kernel
theorem dX11_cost_28 : decode cX11_cost 28 = .ok (.iload_n 3, 1) := by decide +kernel
theorem dX11_cost_29 : decode cX11_cost 29 = .ok (.iconst 1, 1) := by decide +kernel
theorem dX11_cost_30 : decode cX11_cost 30 = .ok (.bipush 9, 2) := by decide +kernel
theorem dX11_cost_32 : decode cX11_cost 32 = .ok (.invokestatic 81, 3) := by decide +kernel
theorem dX11_cost_35 : decode cX11_cost 35 = .ok (.ifCond .ne 5, 3) := by decide +kernel
theorem dX11_cost_38 : decode cX11_cost 38 = .ok (.iconst 0, 1) := by decide +kernel
theorem dX11_cost_39 : decode cX11_cost 39 = .ok (.ireturn, 1) := by decide +kernel
theorem dX11_cost_40 : decode cX11_cost 40 = .ok (.aload_n 0, 1) := by decide +kernel
theorem dX11_cost_41 : decode cX11_cost 41 = .ok (.getfield 16, 3) := by decide +kernel
theorem dX11_cost_44 : decode cX11_cost 44 = .ok (.iconst 4, 1) := by decide +kernel
theorem dX11_cost_45 : decode cX11_cost 45 = .ok (.iload_n 1, 1) := by decide +kernel
theorem dX11_cost_46 : decode cX11_cost 46 = .ok (.imul, 1) := by decide +kernel
theorem dX11_cost_47 : decode cX11_cost 47 = .ok (.iload_n 2, 1) := by decide +kernel
theorem dX11_cost_48 : decode cX11_cost 48 = .ok (.iadd, 1) := by decide +kernel
theorem dX11_cost_49 : decode cX11_cost 49 = .ok (.iload_n 3, 1) := by decide +kernel
theorem dX11_cost_50 : decode cX11_cost 50 = .ok (.iastore, 1) := by decide +kernel
theorem dX11_cost_51 : decode cX11_cost 51 = .ok (.aload_n 0, 1) := by decide +kernel
theorem dX11_cost_52 : decode cX11_cost 52 = .ok (.getfield 16, 3) := by decide +kernel
theorem dX11_cost_55 : decode cX11_cost 55 = .ok (.iconst 4, 1) := by decide +kernel
theorem dX11_cost_56 : decode cX11_cost 56 = .ok (.iload_n 2, 1) := by decide +kernel
theorem dX11_cost_57 : decode cX11_cost 57 = .ok (.imul, 1) := by decide +kernel
theorem dX11_cost_58 : decode cX11_cost 58 = .ok (.iload_n 1, 1) := by decide +kernel
theorem dX11_cost_59 : decode cX11_cost 59 = .ok (.iadd, 1) := by decide +kernel
theorem dX11_cost_60 : decode cX11_cost 60 = .ok (.iload_n 3, 1) := by decide +kernel
theorem dX11_cost_61 : decode cX11_cost 61 = .ok (.iastore, 1) := by decide +kernel
theorem dX11_cost_62 : decode cX11_cost 62 = .ok (.aload_n 0, 1) := by decide +kernel
theorem dX11_cost_63 : decode cX11_cost 63 = .ok (.invokevirtual 91, 3) := by decide +kernel
theorem dX11_cost_66 : decode cX11_cost 66 = .ok (.iconst 1, 1) := by decide +kernel
theorem dX11_cost_67 : decode cX11_cost 67 = .ok (.ireturn, 1) := by decide +kernel
theorem dX11_swap_0 : decode cX11_swap 0 = .ok (.aload_n 0, 1) := by decide +kernel
theorem dX11_swap_1 : decode cX11_swap 1 = .ok (.iconst 0, 1) := by decide +kernel
theorem dX11_swap_2 : decode cX11_swap 2 = .ok (.putfield 1, 3) := by decide +kernel
theorem dX11_swap_5 : decode cX11_swap 5 = .ok (.iload_n 1, 1) := by decide +kernel
theorem dX11_swap_6 : decode cX11_swap 6 = .ok (.iconst 0, 1) := by decide +kernel
theorem dX11_swap_7 : decode cX11_swap 7 = .ok (.bipush 9, 2) := by decide +kernel
theorem dX11_swap_9 : decode cX11_swap 9 = .ok (.invokestatic 81, 3) := by decide +kernel
theorem dX11_swap_12 : decode cX11_swap 12 = .ok (.ifCond .ne 5, 3) := by decide +kernel
theorem dX11_swap_15 : decode cX11_swap 15 = .ok (.iconst 0, 1) := by decide +kernel
theorem dX11_swap_16 : decode cX11_swap 16 = .ok (.ireturn, 1) := by decide +kernel
theorem dX11_swap_17 : decode cX11_swap 17 = .ok (.aload_n 0, 1) := by decide +kernel
theorem dX11_swap_18 : decode cX11_swap 18 = .ok (.iload_n 1, 1) := by decide +kernel
theorem dX11_swap_19 : decode cX11_swap 19 = .ok (.putfield 94, 3) := by decide +kernel
theorem dX11_swap_22 : decode cX11_swap 22 = .ok (.aload_n 0, 1) := by decide +kernel
theorem dX11_swap_23 : decode cX11_swap 23 = .ok (.invokevirtual 91, 3) := by decide +kernel
theorem dX11_swap_26 : decode cX11_swap 26 = .ok (.iconst 1, 1) := by decide +kernel
theorem dX11_swap_27 : decode cX11_swap 27 = .ok (.ireturn, 1) := by decide +kernel
theorem dX11_drop_0 : decode cX11_drop 0 = .ok (.aload_n 0, 1) := by decide +kernel
theorem dX11_drop_1 : decode cX11_drop 1 = .ok (.iconst 0, 1) := by decide +kernel
theorem dX11_drop_2 : decode cX11_drop 2 = .ok (.putfield 1, 3) := by decide +kernel
theorem dX11_drop_5 : decode cX11_drop 5 = .ok (.iload_n 1, 1) := by decide +kernel
theorem dX11_drop_6 : decode cX11_drop 6 = .ok (.iconst 1, 1) := by decide +kernel
theorem dX11_drop_7 : decode cX11_drop 7 = .ok (.bipush 9, 2) := by decide +kernel
theorem dX11_drop_9 : decode cX11_drop 9 = .ok (.invokestatic 81, 3) := by decide +kernel
theorem dX11_drop_12 : decode cX11_drop 12 = .ok (.ifCond .ne 5, 3) := by decide +kernel
theorem dX11_drop_15 : decode cX11_drop 15 = .ok (.iconst 0, 1) := by decide +kernel
theorem dX11_drop_16 : decode cX11_drop 16 = .ok (.ireturn, 1) := by decide +kernel
theorem dX11_drop_17 : decode cX11_drop 17 = .ok (.aload_n 0, 1) := by decide +kernel
theorem dX11_drop_18 : decode cX11_drop 18 = .ok (.iload_n 1, 1) := by decide +kernel
theorem dX11_drop_19 : decode cX11_drop 19 = .ok (.putfield 20, 3) := by decide +kernel
theorem dX11_drop_22 : decode cX11_drop 22 = .ok (.aload_n 0, 1) := by decide +kernel
theorem dX11_drop_23 : decode cX11_drop 23 = .ok (.invokevirtual 91, 3) := by decide +kernel
theorem dX11_drop_26 : decode cX11_drop 26 = .ok (.iconst 1, 1) := by decide +kernel
theorem dX11_drop_27 : decode cX11_drop 27 = .ok (.ireturn, 1) := by decide +kernel
theorem dX11_gap_0 : decode cX11_gap 0 = .ok (.aload_n 0, 1) := by decide +kernel
theorem dX11_gap_1 : decode cX11_gap 1 = .ok (.iconst 0, 1) := by decide +kernel
theorem dX11_gap_2 : decode cX11_gap 2 = .ok (.putfield 1, 3) := by decide +kernel
theorem dX11_gap_5 : decode cX11_gap 5 = .ok (.iload_n 1, 1) := by decide +kernel
theorem dX11_gap_6 : decode cX11_gap 6 = .ok (.iconst 0, 1) := by decide +kernel
theorem dX11_gap_7 : decode cX11_gap 7 = .ok (.bipush 63, 2) := by decide +kernel
theorem dX11_gap_9 : decode cX11_gap 9 = .ok (.invokestatic 81, 3) := by decide +kernel
theorem dX11_gap_12 : decode cX11_gap 12 = .ok (.ifCond .ne 5, 3) := by decide +kernel
theorem dX11_gap_15 : decode cX11_gap 15 = .ok (.iconst 0, 1) := by decide +kernel
theorem dX11_gap_16 : decode cX11_gap 16 = .ok (.ireturn, 1) := by decide +kernel
theorem dX11_gap_17 : decode cX11_gap 17 = .ok (.aload_n 0, 1) := by decide +kernel
theorem dX11_gap_18 : decode cX11_gap 18 = .ok (.iload_n 1, 1) := by decide +kernel
theorem dX11_gap_19 : decode cX11_gap 19 = .ok (.putfield 97, 3) := by decide +kernel
theorem dX11_gap_22 : decode cX11_gap 22 = .ok (.iconst 1, 1) := by decide +kernel
theorem dX11_gap_23 : decode cX11_gap 23 = .ok (.ireturn, 1) := by decide +kernel
theorem dX11_feed_0 : decode cX11_feed 0 = .ok (.aload_n 0, 1) := by decide +kernel
theorem dX11_feed_1 : decode cX11_feed 1 = .ok (.iconst 0, 1) := by decide +kernel
theorem dX11_feed_2 : decode cX11_feed 2 = .ok (.putfield 1, 3) := by decide +kernel
theorem dX11_feed_5 : decode cX11_feed 5 = .ok (.aload_n 0, 1) := by decide +kernel
theorem dX11_feed_6 : decode cX11_feed 6 = .ok (.getfield 100, 3) := by decide +kernel
theorem dX11_feed_9 : decode cX11_feed 9 = .ok (.bipush 20, 2) := by decide +kernel
theorem dX11_feed_11 : decode cX11_feed 11 = .ok (.iadd, 1) := by decide +kernel
theorem dX11_feed_12 : decode cX11_feed 12 = .ok (.bipush 40, 2) := by decide +kernel
theorem dX11_feed_14 : decode cX11_feed 14 = .ok (.if_icmp .le 5, 3) := by decide +kernel
theorem dX11_feed_17 : decode cX11_feed 17 = .ok (.iconst (-1), 1) := by decide +kernel
theorem dX11_feed_18 : decode cX11_feed 18 = .ok (.ireturn, 1) := by decide +kernel
theorem dX11_feed_19 : decode cX11_feed 19 = .ok (.iconst 0, 1) := by decide +kernel
theorem dX11_feed_20 : decode cX11_feed 20 = .ok (.istore 6, 2) := by decide +kernel
theorem dX11_feed_22 : decode cX11_feed 22 = .ok (.iload 6, 2) := by decide +kernel
theorem dX11_feed_24 : decode cX11_feed 24 = .ok (.bipush 20, 2) := by decide +kernel
theorem dX11_feed_26 : decode cX11_feed 26 = .ok (.if_icmp .ge 90, 3) := by decide +kernel
theorem dX11_feed_29 : decode cX11_feed 29 = .ok (.iload 6, 2) := by decide +kernel
theorem dX11_feed_31 : decode cX11_feed 31 = .ok (.iconst 4, 1) := by decide +kernel
theorem dX11_feed_32 : decode cX11_feed 32 = .ok (.if_icmp .ge 7, 3) := by decide +kernel
theorem dX11_feed_35 : decode cX11_feed 35 = .ok (.iload_n 1, 1) := by decide +kernel
theorem dX11_feed_36 : decode cX11_feed 36 = .ok (.goto 39, 3) := by decide +kernel
theorem dX11_feed_39 : decode cX11_feed 39 = .ok (.iload 6, 2) := by decide +kernel
theorem dX11_feed_41 : decode cX11_feed 41 = .ok (.bipush 8, 2) := by decide +kernel
theorem dX11_feed_43 : decode cX11_feed 43 = .ok (.if_icmp .ge 7, 3) := by decide +kernel
theorem dX11_feed_46 : decode cX11_feed 46 = .ok (.iload_n 2, 1) := by decide +kernel
theorem dX11_feed_47 : decode cX11_feed 47 = .ok (.goto 28, 3) := by decide +kernel
theorem dX11_feed_50 : decode cX11_feed 50 = .ok (.iload 6, 2) := by decide +kernel
theorem dX11_feed_52 : decode cX11_feed 52 = .ok (.bipush 12, 2) := by decide +kernel
theorem dX11_feed_54 : decode cX11_feed 54 = .ok (.if_icmp .ge 7, 3) := by decide +kernel
theorem dX11_feed_57 : decode cX11_feed 57 = .ok (.iload_n 3, 1) := by decide +kernel
theorem dX11_feed_58 : decode cX11_feed 58 = .ok (.goto 17, 3) := by decide +kernel
theorem dX11_feed_61 : decode cX11_feed 61 = .ok (.iload 6, 2) := by decide +kernel
theorem dX11_feed_63 : decode cX11_feed 63 = .ok (.bipush 16, 2) := by decide +kernel
theorem dX11_feed_65 : decode cX11_feed 65 = .ok (.if_icmp .ge 8, 3) := by decide +kernel
theorem dX11_feed_68 : decode cX11_feed 68 = .ok (.iload 4, 2) := by decide +kernel
theorem dX11_feed_70 : decode cX11_feed 70 = .ok (.goto 5, 3) := by decide +kernel
theorem dX11_feed_73 : decode cX11_feed 73 = .ok (.iload 5, 2) := by decide +kernel
theorem dX11_feed_75 : decode cX11_feed 75 = .ok (.istore 7, 2) := by decide +kernel
theorem dX11_feed_77 : decode cX11_feed 77 = .ok (.aload_n 0, 1) := by decide +kernel
theorem dX11_feed_78 : decode cX11_feed 78 = .ok (.getfield 36, 3) := by decide +kernel
theorem dX11_feed_81 : decode cX11_feed 81 = .ok (.aload_n 0, 1) := by decide +kernel
theorem dX11_feed_82 : decode cX11_feed 82 = .ok (.getfield 100, 3) := by decide +kernel
theorem dX11_feed_85 : decode cX11_feed 85 = .ok (.iload 7, 2) := by decide +kernel
theorem dX11_feed_87 : decode cX11_feed 87 = .ok (.bipush 24, 2) := by decide +kernel
theorem dX11_feed_89 : decode cX11_feed 89 = .ok (.bipush 8, 2) := by decide +kernel
theorem dX11_feed_91 : decode cX11_feed 91 = .ok (.iload 6, 2) := by decide +kernel
theorem dX11_feed_93 : decode cX11_feed 93 = .ok (.iconst 4, 1) := by decide +kernel
theorem dX11_feed_94 : decode cX11_feed 94 = .ok (.irem, 1) := by decide +kernel
theorem dX11_feed_95 : decode cX11_feed 95 = .ok (.imul, 1) := by decide +kernel
theorem dX11_feed_96 : decode cX11_feed 96 = .ok (.isub, 1) := by decide +kernel
theorem dX11_feed_97 : decode cX11_feed 97 = .ok (.ishr, 1) := by decide +kernel
theorem dX11_feed_98 : decode cX11_feed 98 = .ok (.i2b, 1) := by decide +kernel
theorem dX11_feed_99 : decode cX11_feed 99 = .ok (.bastore, 1) := by decide +kernel
theorem dX11_feed_100 : decode cX11_feed 100 = .ok (.aload_n 0, 1) := by decide +kernel
theorem dX11_feed_101 : decode cX11_feed 101 = .ok (.dup, 1) := by decide +kernel
theorem dX11_feed_102 : decode cX11_feed 102 = .ok (.getfield 100, 3) := by decide +kernel
theorem dX11_feed_105 : decode cX11_feed 105 = .ok (.iconst 1, 1) := by decide +kernel
theorem dX11_feed_106 : decode cX11_feed 106 = .ok (.iadd, 1) := by decide +kernel
theorem dX11_feed_107 : decode cX11_feed 107 = .ok (.putfield 100, 3) := by decide +kernel
theorem dX11_feed_110 : decode cX11_feed 110 = .ok (.iinc 6 1, 3) := by decide +kernel
theorem dX11_feed_113 : decode cX11_feed 113 = .ok (.goto (-91), 3) := by decide +kernel
theorem dX11_feed_116 : decode cX11_feed 116 = .ok (.aload_n 0, 1) := by decide +kernel
theorem dX11_feed_117 : decode cX11_feed 117 = .ok (.getfield 100, 3) := by decide +kernel
theorem dX11_feed_120 : decode cX11_feed 120 = .ok (.ireturn, 1) := by decide +kernel
theorem dX11_end_0 : decode cX11_end 0 = .ok (.aload_n 0, 1) := by decide +kernel
theorem dX11_end_1 : decode cX11_end 1 = .ok (.iconst 0, 1) := by decide +kernel
theorem dX11_end_2 : decode cX11_end 2 = .ok (.putfield 1, 3) := by decide +kernel
theorem dX11_end_5 : decode cX11_end 5 = .ok (.iload_n 1, 1) := by decide +kernel
theorem dX11_end_6 : decode cX11_end 6 = .ok (.ifCond .lt 11, 3) := by decide +kernel
theorem dX11_end_9 : decode cX11_end 9 = .ok (.iload_n 1, 1) := by decide +kernel
theorem dX11_end_10 : decode cX11_end 10 = .ok (.aload_n 0, 1) := by decide +kernel
theorem dX11_end_11 : decode cX11_end 11 = .ok (.getfield 100, 3) := by decide +kernel
theorem dX11_end_14 : decode cX11_end 14 = .ok (.if_icmp .le 5, 3) := by decide +kernel
theorem dX11_end_17 : decode cX11_end 17 = .ok (.iconst (-1), 1) := by decide +kernel
theorem dX11_end_18 : decode cX11_end 18 = .ok (.ireturn, 1) := by decide +kernel
theorem dX11_end_19 : decode cX11_end 19 = .ok (.aload_n 0, 1) := by decide +kernel
theorem dX11_end_20 : decode cX11_end 20 = .ok (.iload_n 1, 1) := by decide +kernel
theorem dX11_end_21 : decode cX11_end 21 = .ok (.putfield 100, 3) := by decide +kernel
theorem dX11_end_24 : decode cX11_end 24 = .ok (.iload_n 1, 1) := by decide +kernel
theorem dX11_end_25 : decode cX11_end 25 = .ok (.ireturn, 1) := by decide +kernel
theorem dX11_takes_0 : decode cX11_takes 0 = .ok (.aload_n 0, 1) := by decide +kernel
theorem dX11_takes_1 : decode cX11_takes 1 = .ok (.aload_n 0, 1) := by decide +kernel
theorem dX11_takes_2 : decode cX11_takes 2 = .ok (.getfield 100, 3) := by decide +kernel
theorem dX11_takes_5 : decode cX11_takes 5 = .ok (.putfield 103, 3) := by decide +kernel
theorem dX11_takes_8 : decode cX11_takes 8 = .ok (.aload_n 0, 1) := by decide +kernel
theorem dX11_takes_9 : decode cX11_takes 9 = .ok (.iconst 0, 1) := by decide +kernel
theorem dX11_takes_10 : decode cX11_takes 10 = .ok (.putfield 100, 3) := by decide +kernel
theorem dX11_takes_13 : decode cX11_takes 13 = .ok (.aload_n 0, 1) := by decide +kernel
theorem dX11_takes_14 : decode cX11_takes 14 = .ok (.getfield 103, 3) := by decide +kernel
theorem dX11_takes_17 : decode cX11_takes 17 = .ok (.iload_n 1, 1) := by decide +kernel
theorem dX11_takes_18 : decode cX11_takes 18 = .ok (.iload_n 2, 1) := by decide +kernel
theorem dX11_takes_19 : decode cX11_takes 19 = .ok (.invokestatic 81, 3) := by decide +kernel
theorem dX11_takes_22 : decode cX11_takes 22 = .ok (.istore_n 3, 1) := by decide +kernel
theorem dX11_takes_23 : decode cX11_takes 23 = .ok (.iconst 0, 1) := by decide +kernel
theorem dX11_takes_24 : decode cX11_takes 24 = .ok (.istore 4, 2) := by decide +kernel
theorem dX11_takes_26 : decode cX11_takes 26 = .ok (.iload 4, 2) := by decide +kernel
theorem dX11_takes_28 : decode cX11_takes 28 = .ok (.aload_n 0, 1) := by decide +kernel
theorem dX11_takes_29 : decode cX11_takes 29 = .ok (.getfield 103, 3) := by decide +kernel
theorem dX11_takes_32 : decode cX11_takes 32 = .ok (.if_icmp .ge 61, 3) := by decide +kernel
theorem dX11_takes_35 : decode cX11_takes 35 = .ok (.iload_n 3, 1) := by decide +kernel
theorem dX11_takes_36 : decode cX11_takes 36 = .ok (.ifCond .eq 31, 3) := by decide +kernel
theorem dX11_takes_39 : decode cX11_takes 39 = .ok (.aload_n 0, 1) := by decide +kernel
theorem dX11_takes_40 : decode cX11_takes 40 = .ok (.getfield 36, 3) := by decide +kernel
theorem dX11_takes_43 : decode cX11_takes 43 = .ok (.iload 4, 2) := by decide +kernel
theorem dX11_takes_45 : decode cX11_takes 45 = .ok (.baload, 1) := by decide +kernel
theorem dX11_takes_46 : decode cX11_takes 46 = .ok (.bipush 97, 2) := by decide +kernel
theorem dX11_takes_48 : decode cX11_takes 48 = .ok (.bipush 97, 2) := by decide +kernel
theorem dX11_takes_50 : decode cX11_takes 50 = .ok (.aload_n 0, 1) := by decide +kernel
theorem dX11_takes_51 : decode cX11_takes 51 = .ok (.getfield 13, 3) := by decide +kernel
theorem dX11_takes_54 : decode cX11_takes 54 = .ok (.iadd, 1) := by decide +kernel
theorem dX11_takes_55 : decode cX11_takes 55 = .ok (.iconst 1, 1) := by decide +kernel
theorem dX11_takes_56 : decode cX11_takes 56 = .ok (.isub, 1) := by decide +kernel
theorem dX11_takes_57 : decode cX11_takes 57 = .ok (.invokestatic 81, 3) := by decide +kernel
theorem dX11_takes_60 : decode cX11_takes 60 = .ok (.ifCond .eq 7, 3) := by decide +kernel
theorem dX11_takes_63 : decode cX11_takes 63 = .ok (.iconst 1, 1) := by decide +kernel
theorem dX11_takes_64 : decode cX11_takes 64 = .ok (.goto 4, 3) := by decide +kernel
theorem dX11_takes_67 : decode cX11_takes 67 = .ok (.iconst 0, 1) := by decide +kernel
theorem dX11_takes_68 : decode cX11_takes 68 = .ok (.istore_n 3, 1) := by decide +kernel
theorem dX11_takes_69 : decode cX11_takes 69 = .ok (.aload_n 0, 1) := by decide +kernel
theorem dX11_takes_70 : decode cX11_takes 70 = .ok (.getfield 39, 3) := by decide +kernel
theorem dX11_takes_73 : decode cX11_takes 73 = .ok (.iload 4, 2) := by decide +kernel
theorem dX11_takes_75 : decode cX11_takes 75 = .ok (.aload_n 0, 1) := by decide +kernel
theorem dX11_takes_76 : decode cX11_takes 76 = .ok (.getfield 36, 3) := by decide +kernel
theorem dX11_takes_79 : decode cX11_takes 79 = .ok (.iload 4, 2) := by decide +kernel
theorem dX11_takes_81 : decode cX11_takes 81 = .ok (.baload, 1) := by decide +kernel
theorem dX11_takes_82 : decode cX11_takes 82 = .ok (.bipush 97, 2) := by decide +kernel
theorem dX11_takes_84 : decode cX11_takes 84 = .ok (.isub, 1) := by decide +kernel
theorem dX11_takes_85 : decode cX11_takes 85 = .ok (.i2b, 1) := by decide +kernel
theorem dX11_takes_86 : decode cX11_takes 86 = .ok (.bastore, 1) := by decide +kernel
theorem dX11_takes_87 : decode cX11_takes 87 = .ok (.iinc 4 1, 3) := by decide +kernel
theorem dX11_takes_90 : decode cX11_takes 90 = .ok (.goto (-64), 3) := by decide +kernel
theorem dX11_takes_93 : decode cX11_takes 93 = .ok (.iload_n 3, 1) := by decide +kernel
theorem dX11_takes_94 : decode cX11_takes 94 = .ok (.ireturn, 1) := by decide +kernel
theorem dX11_word_0 : decode cX11_word 0 = .ok (.aload_n 0, 1) := by decide +kernel
theorem dX11_word_1 : decode cX11_word 1 = .ok (.iconst 0, 1) := by decide +kernel
theorem dX11_word_2 : decode cX11_word 2 = .ok (.putfield 1, 3) := by decide +kernel
theorem dX11_word_5 : decode cX11_word 5 = .ok (.aload_n 0, 1) := by decide +kernel
theorem dX11_word_6 : decode cX11_word 6 = .ok (.getfield 85, 3) := by decide +kernel
theorem dX11_word_9 : decode cX11_word 9 = .ok (.ifCond .ne 13, 3) := by decide +kernel
theorem dX11_word_12 : decode cX11_word 12 = .ok (.aload_n 0, 1) := by decide +kernel
theorem dX11_word_13 : decode cX11_word 13 = .ok (.iconst 1, 1) := by decide +kernel
theorem dX11_word_14 : decode cX11_word 14 = .ok (.bipush 7, 2) := by decide +kernel
theorem dX11_word_16 : decode cX11_word 16 = .ok (.invokevirtual 106, 3) := by decide +kernel
theorem dX11_word_19 : decode cX11_word 19 = .ok (.goto 15, 3) := by decide +kernel
theorem dX11_word_22 : decode cX11_word 22 = .ok (.aload_n 0, 1) := by decide +kernel
theorem dX11_word_23 : decode cX11_word 23 = .ok (.aload_n 0, 1) := by decide +kernel
theorem dX11_word_24 : decode cX11_word 24 = .ok (.getfield 110, 3) := by decide +kernel
theorem dX11_word_27 : decode cX11_word 27 = .ok (.aload_n 0, 1) := by decide +kernel
theorem dX11_word_28 : decode cX11_word 28 = .ok (.getfield 110, 3) := by decide +kernel
theorem dX11_word_31 : decode cX11_word 31 = .ok (.invokevirtual 106, 3) := by decide +kernel
theorem dX11_word_34 : decode cX11_word 34 = .ok (.istore_n 1, 1) := by decide +kernel
theorem dX11_word_35 : decode cX11_word 35 = .ok (.iload_n 1, 1) := by decide +kernel
theorem dX11_word_36 : decode cX11_word 36 = .ok (.ifCond .eq 12, 3) := by decide +kernel
theorem dX11_word_39 : decode cX11_word 39 = .ok (.aload_n 0, 1) := by decide +kernel
theorem dX11_word_40 : decode cX11_word 40 = .ok (.getfield 85, 3) := by decide +kernel
theorem dX11_word_43 : decode cX11_word 43 = .ok (.bipush 8, 2) := by decide +kernel
theorem dX11_word_45 : decode cX11_word 45 = .ok (.if_icmp .ne 5, 3) := by decide +kernel
theorem dX11_word_48 : decode cX11_word 48 = .ok (.iconst (-1), 1) := by decide +kernel
theorem dX11_word_49 : decode cX11_word 49 = .ok (.ireturn, 1) := by decide +kernel
theorem dX11_word_50 : decode cX11_word 50 = .ok (.aload_n 0, 1) := by decide +kernel
theorem dX11_word_51 : decode cX11_word 51 = .ok (.aload_n 0, 1) := by decide +kernel
theorem dX11_word_52 : decode cX11_word 52 = .ok (.getfield 103, 3) := by decide +kernel
theorem dX11_word_55 : decode cX11_word 55 = .ok (.putfield 110, 3) := by decide +kernel
theorem dX11_word_58 : decode cX11_word 58 = .ok (.iconst 0, 1) := by decide +kernel
theorem dX11_word_59 : decode cX11_word 59 = .ok (.istore_n 2, 1) := by decide +kernel
theorem dX11_word_60 : decode cX11_word 60 = .ok (.iload_n 2, 1) := by decide +kernel
theorem dX11_word_61 : decode cX11_word 61 = .ok (.aload_n 0, 1) := by decide +kernel
theorem dX11_word_62 : decode cX11_word 62 = .ok (.getfield 110, 3) := by decide +kernel
theorem dX11_word_65 : decode cX11_word 65 = .ok (.if_icmp .ge 29, 3) := by decide +kernel
theorem dX11_word_68 : decode cX11_word 68 = .ok (.aload_n 0, 1) := by decide +kernel
theorem dX11_word_69 : decode cX11_word 69 = .ok (.getfield 23, 3) := by decide +kernel
theorem dX11_word_72 : decode cX11_word 72 = .ok (.bipush 7, 2) := by decide +kernel
theorem dX11_word_74 : decode cX11_word 74 = .ok (.aload_n 0, 1) := by decide +kernel
theorem dX11_word_75 : decode cX11_word 75 = .ok (.getfield 85, 3) := by decide +kernel
theorem dX11_word_78 : decode cX11_word 78 = .ok (.imul, 1) := by decide +kernel
theorem dX11_word_79 : decode cX11_word 79 = .ok (.iload_n 2, 1) := by decide +kernel
theorem dX11_word_80 : decode cX11_word 80 = .ok (.iadd, 1) := by decide +kernel
theorem dX11_word_81 : decode cX11_word 81 = .ok (.aload_n 0, 1) := by decide +kernel
theorem dX11_word_82 : decode cX11_word 82 = .ok (.getfield 39, 3) := by decide +kernel
theorem dX11_word_85 : decode cX11_word 85 = .ok (.iload_n 2, 1) := by decide +kernel
theorem dX11_word_86 : decode cX11_word 86 = .ok (.baload, 1) := by decide +kernel
theorem dX11_word_87 : decode cX11_word 87 = .ok (.bastore, 1) := by decide +kernel
theorem dX11_word_88 : decode cX11_word 88 = .ok (.iinc 2 1, 3) := by decide +kernel
theorem dX11_word_91 : decode cX11_word 91 = .ok (.goto (-31), 3) := by decide +kernel
theorem dX11_word_94 : decode cX11_word 94 = .ok (.aload_n 0, 1) := by decide +kernel
theorem dX11_word_95 : decode cX11_word 95 = .ok (.getfield 27, 3) := by decide +kernel
theorem dX11_word_98 : decode cX11_word 98 = .ok (.aload_n 0, 1) := by decide +kernel
theorem dX11_word_99 : decode cX11_word 99 = .ok (.getfield 85, 3) := by decide +kernel
theorem dX11_word_102 : decode cX11_word 102 = .ok (.iconst 1, 1) := by decide +kernel
theorem dX11_word_103 : decode cX11_word 103 = .ok (.iastore, 1) := by decide +kernel
theorem dX11_word_104 : decode cX11_word 104 = .ok (.aload_n 0, 1) := by decide +kernel
theorem dX11_word_105 : decode cX11_word 105 = .ok (.dup, 1) := by decide +kernel
theorem dX11_word_106 : decode cX11_word 106 = .ok (.getfield 85, 3) := by decide +kernel
theorem dX11_word_109 : decode cX11_word 109 = .ok (.iconst 1, 1) := by decide +kernel
theorem dX11_word_110 : decode cX11_word 110 = .ok (.iadd, 1) := by decide +kernel
theorem dX11_word_111 : decode cX11_word 111 = .ok (.putfield 85, 3) := by decide +kernel
theorem dX11_word_114 : decode cX11_word 114 = .ok (.aload_n 0, 1) := by decide +kernel
theorem dX11_word_115 : decode cX11_word 115 = .ok (.invokevirtual 91, 3) := by decide +kernel
theorem dX11_word_118 : decode cX11_word 118 = .ok (.aload_n 0, 1) := by decide +kernel
theorem dX11_word_119 : decode cX11_word 119 = .ok (.getfield 85, 3) := by decide +kernel
theorem dX11_word_122 : decode cX11_word 122 = .ok (.iconst 1, 1) := by decide +kernel
theorem dX11_word_123 : decode cX11_word 123 = .ok (.isub, 1) := by decide +kernel
theorem dX11_word_124 : decode cX11_word 124 = .ok (.ireturn, 1) := by decide +kernel
theorem dX11_text_0 : decode cX11_text 0 = .ok (.aload_n 0, 1) := by decide +kernel
theorem dX11_text_1 : decode cX11_text 1 = .ok (.iconst 0, 1) := by decide +kernel
theorem dX11_text_2 : decode cX11_text 2 = .ok (.putfield 1, 3) := by decide +kernel
theorem dX11_text_5 : decode cX11_text 5 = .ok (.aload_n 0, 1) := by decide +kernel
theorem dX11_text_6 : decode cX11_text 6 = .ok (.iconst 1, 1) := by decide +kernel
theorem dX11_text_7 : decode cX11_text 7 = .ok (.bipush 24, 2) := by decide +kernel
theorem dX11_text_9 : decode cX11_text 9 = .ok (.invokevirtual 106, 3) := by decide +kernel
theorem dX11_text_12 : decode cX11_text 12 = .ok (.ifCond .eq 11, 3) := by decide +kernel
theorem dX11_text_15 : decode cX11_text 15 = .ok (.aload_n 0, 1) := by decide +kernel
theorem dX11_text_16 : decode cX11_text 16 = .ok (.getfield 88, 3) := by decide +kernel
theorem dX11_text_19 : decode cX11_text 19 = .ok (.iconst 5, 1) := by decide +kernel
theorem dX11_text_20 : decode cX11_text 20 = .ok (.if_icmp .ne 5, 3) := by decide +kernel
theorem dX11_text_23 : decode cX11_text 23 = .ok (.iconst (-1), 1) := by decide +kernel
theorem dX11_text_24 : decode cX11_text 24 = .ok (.ireturn, 1) := by decide +kernel
theorem dX11_text_25 : decode cX11_text 25 = .ok (.iconst 0, 1) := by decide +kernel
theorem dX11_text_26 : decode cX11_text 26 = .ok (.istore_n 1, 1) := by decide +kernel
theorem dX11_text_27 : decode cX11_text 27 = .ok (.iload_n 1, 1) := by decide +kernel
theorem dX11_text_28 : decode cX11_text 28 = .ok (.aload_n 0, 1) := by decide +kernel
theorem dX11_text_29 : decode cX11_text 29 = .ok (.getfield 103, 3) := by decide +kernel
theorem dX11_text_32 : decode cX11_text 32 = .ok (.if_icmp .ge 29, 3) := by decide +kernel
theorem dX11_text_35 : decode cX11_text 35 = .ok (.aload_n 0, 1) := by decide +kernel
theorem dX11_text_36 : decode cX11_text 36 = .ok (.getfield 30, 3) := by decide +kernel
theorem dX11_text_39 : decode cX11_text 39 = .ok (.bipush 24, 2) := by decide +kernel
theorem dX11_text_41 : decode cX11_text 41 = .ok (.aload_n 0, 1) := by decide +kernel
theorem dX11_text_42 : decode cX11_text 42 = .ok (.getfield 88, 3) := by decide +kernel
theorem dX11_text_45 : decode cX11_text 45 = .ok (.imul, 1) := by decide +kernel
theorem dX11_text_46 : decode cX11_text 46 = .ok (.iload_n 1, 1) := by decide +kernel
theorem dX11_text_47 : decode cX11_text 47 = .ok (.iadd, 1) := by decide +kernel
theorem dX11_text_48 : decode cX11_text 48 = .ok (.aload_n 0, 1) := by decide +kernel
theorem dX11_text_49 : decode cX11_text 49 = .ok (.getfield 39, 3) := by decide +kernel
theorem dX11_text_52 : decode cX11_text 52 = .ok (.iload_n 1, 1) := by decide +kernel
theorem dX11_text_53 : decode cX11_text 53 = .ok (.baload, 1) := by decide +kernel
theorem dX11_text_54 : decode cX11_text 54 = .ok (.bastore, 1) := by decide +kernel
theorem dX11_text_55 : decode cX11_text 55 = .ok (.iinc 1 1, 3) := by decide +kernel
theorem dX11_text_58 : decode cX11_text 58 = .ok (.goto (-31), 3) := by decide +kernel
theorem dX11_text_61 : decode cX11_text 61 = .ok (.aload_n 0, 1) := by decide +kernel
theorem dX11_text_62 : decode cX11_text 62 = .ok (.getfield 33, 3) := by decide +kernel
theorem dX11_text_65 : decode cX11_text 65 = .ok (.aload_n 0, 1) := by decide +kernel
theorem dX11_text_66 : decode cX11_text 66 = .ok (.getfield 88, 3) := by decide +kernel
theorem dX11_text_69 : decode cX11_text 69 = .ok (.aload_n 0, 1) := by decide +kernel
theorem dX11_text_70 : decode cX11_text 70 = .ok (.getfield 103, 3) := by decide +kernel
theorem dX11_text_73 : decode cX11_text 73 = .ok (.iastore, 1) := by decide +kernel
theorem dX11_text_74 : decode cX11_text 74 = .ok (.aload_n 0, 1) := by decide +kernel
theorem dX11_text_75 : decode cX11_text 75 = .ok (.dup, 1) := by decide +kernel
theorem dX11_text_76 : decode cX11_text 76 = .ok (.getfield 88, 3) := by decide +kernel
theorem dX11_text_79 : decode cX11_text 79 = .ok (.iconst 1, 1) := by decide +kernel
theorem dX11_text_80 : decode cX11_text 80 = .ok (.iadd, 1) := by decide +kernel
theorem dX11_text_81 : decode cX11_text 81 = .ok (.putfield 88, 3) := by decide +kernel
theorem dX11_text_84 : decode cX11_text 84 = .ok (.aload_n 0, 1) := by decide +kernel
theorem dX11_text_85 : decode cX11_text 85 = .ok (.invokevirtual 91, 3) := by decide +kernel
theorem dX11_text_88 : decode cX11_text 88 = .ok (.aload_n 0, 1) := by decide +kernel
theorem dX11_text_89 : decode cX11_text 89 = .ok (.getfield 88, 3) := by decide +kernel
theorem dX11_text_92 : decode cX11_text 92 = .ok (.iconst 1, 1) := by decide +kernel
theorem dX11_text_93 : decode cX11_text 93 = .ok (.isub, 1) := by decide +kernel
theorem dX11_text_94 : decode cX11_text 94 = .ok (.ireturn, 1) := by decide +kernel
theorem dX11_isWord_0 : decode cX11_isWord 0 = .ok (.iload_n 1, 1) := by decide +kernel
theorem dX11_isWord_1 : decode cX11_isWord 1 = .ok (.ifCond .lt 15, 3) := by decide +kernel
theorem dX11_isWord_4 : decode cX11_isWord 4 = .ok (.iload_n 1, 1) := by decide +kernel
theorem dX11_isWord_5 : decode cX11_isWord 5 = .ok (.aload_n 0, 1) := by decide +kernel
theorem dX11_isWord_6 : decode cX11_isWord 6 = .ok (.getfield 85, 3) := by decide +kernel
theorem dX11_isWord_9 : decode cX11_isWord 9 = .ok (.if_icmp .ge 7, 3) := by decide +kernel
theorem dX11_isWord_12 : decode cX11_isWord 12 = .ok (.iconst 1, 1) := by decide +kernel
theorem dX11_isWord_13 : decode cX11_isWord 13 = .ok (.goto 4, 3) := by decide +kernel
theorem dX11_isWord_16 : decode cX11_isWord 16 = .ok (.iconst 0, 1) := by decide +kernel
theorem dX11_isWord_17 : decode cX11_isWord 17 = .ok (.ireturn, 1) := by decide +kernel
theorem dX11_part_0 : decode cX11_part 0 = .ok (.aload_n 0, 1) := by decide +kernel
theorem dX11_part_1 : decode cX11_part 1 = .ok (.iconst 0, 1) := by decide +kernel
theorem dX11_part_2 : decode cX11_part 2 = .ok (.putfield 1, 3) := by decide +kernel
theorem dX11_part_5 : decode cX11_part 5 = .ok (.aload_n 0, 1) := by decide +kernel
theorem dX11_part_6 : decode cX11_part 6 = .ok (.iload_n 1, 1) := by decide +kernel
theorem dX11_part_7 : decode cX11_part 7 = .ok (.invokevirtual 113, 3) := by decide +kernel
theorem dX11_part_10 : decode cX11_part 10 = .ok (.ifCond .eq 12, 3) := by decide +kernel
theorem dX11_part_13 : decode cX11_part 13 = .ok (.iload_n 2, 1) := by decide +kernel
theorem dX11_part_14 : decode cX11_part 14 = .ok (.iconst 0, 1) := by decide +kernel
theorem dX11_part_15 : decode cX11_part 15 = .ok (.iconst 2, 1) := by decide +kernel
theorem dX11_part_16 : decode cX11_part 16 = .ok (.invokestatic 81, 3) := by decide +kernel
theorem dX11_part_19 : decode cX11_part 19 = .ok (.ifCond .ne 5, 3) := by decide +kernel
theorem dX11_part_22 : decode cX11_part 22 = .ok (.iconst 0, 1) := by decide +kernel
theorem dX11_part_23 : decode cX11_part 23 = .ok (.ireturn, 1) := by decide +kernel
theorem dX11_part_24 : decode cX11_part 24 = .ok (.aload_n 0, 1) := by decide +kernel
theorem dX11_part_25 : decode cX11_part 25 = .ok (.getfield 27, 3) := by decide +kernel
theorem dX11_part_28 : decode cX11_part 28 = .ok (.iload_n 1, 1) := by decide +kernel
theorem dX11_part_29 : decode cX11_part 29 = .ok (.iload_n 2, 1) := by decide +kernel
theorem dX11_part_30 : decode cX11_part 30 = .ok (.iastore, 1) := by decide +kernel
theorem dX11_part_31 : decode cX11_part 31 = .ok (.aload_n 0, 1) := by decide +kernel
theorem dX11_part_32 : decode cX11_part 32 = .ok (.iconst 0, 1) := by decide +kernel
theorem dX11_part_33 : decode cX11_part 33 = .ok (.putfield 75, 3) := by decide +kernel
theorem dX11_part_36 : decode cX11_part 36 = .ok (.iconst 1, 1) := by decide +kernel
theorem dX11_part_37 : decode cX11_part 37 = .ok (.ireturn, 1) := by decide +kernel
theorem dX11_distance_0 : decode cX11_distance 0 = .ok (.aload_n 0, 1) := by decide +kernel
theorem dX11_distance_1 : decode cX11_distance 1 = .ok (.getfield 42, 3) := by decide +kernel
theorem dX11_distance_4 : decode cX11_distance 4 = .ok (.iconst 0, 1) := by decide +kernel
theorem dX11_distance_5 : decode cX11_distance 5 = .ok (.iconst 0, 1) := by decide +kernel
theorem dX11_distance_6 : decode cX11_distance 6 = .ok (.iastore, 1) := by decide +kernel
theorem dX11_distance_7 : decode cX11_distance 7 = .ok (.iconst 1, 1) := by decide +kernel
theorem dX11_distance_8 : decode cX11_distance 8 = .ok (.istore 6, 2) := by decide +kernel
theorem dX11_distance_10 : decode cX11_distance 10 = .ok (.iload 6, 2) := by decide +kernel
theorem dX11_distance_12 : decode cX11_distance 12 = .ok (.iload 5, 2) := by decide +kernel
theorem dX11_distance_14 : decode cX11_distance 14 = .ok (.if_icmp .gt 147, 3) := by decide +kernel
theorem dX11_distance_17 : decode cX11_distance 17 = .ok (.aload_n 0, 1) := by decide +kernel
theorem dX11_distance_18 : decode cX11_distance 18 = .ok (.getfield 42, 3) := by decide +kernel
theorem dX11_distance_21 : decode cX11_distance 21 = .ok (.iload 6, 2) := by decide +kernel
theorem dX11_distance_23 : decode cX11_distance 23 = .ok (.aload_n 0, 1) := by decide +kernel
theorem dX11_distance_24 : decode cX11_distance 24 = .ok (.getfield 42, 3) := by decide +kernel
theorem dX11_distance_27 : decode cX11_distance 27 = .ok (.iload 6, 2) := by decide +kernel
theorem dX11_distance_29 : decode cX11_distance 29 = .ok (.iconst 1, 1) := by decide +kernel
theorem dX11_distance_30 : decode cX11_distance 30 = .ok (.isub, 1) := by decide +kernel
theorem dX11_distance_31 : decode cX11_distance 31 = .ok (.iaload, 1) := by decide +kernel
theorem dX11_distance_32 : decode cX11_distance 32 = .ok (.aload_n 0, 1) := by decide +kernel
theorem dX11_distance_33 : decode cX11_distance 33 = .ok (.getfield 16, 3) := by decide +kernel
theorem dX11_distance_36 : decode cX11_distance 36 = .ok (.iconst 4, 1) := by decide +kernel
theorem dX11_distance_37 : decode cX11_distance 37 = .ok (.aload_n 1, 1) := by decide +kernel
theorem dX11_distance_38 : decode cX11_distance 38 = .ok (.iload_n 2, 1) := by decide +kernel
theorem dX11_distance_39 : decode cX11_distance 39 = .ok (.iload 6, 2) := by decide +kernel
theorem dX11_distance_41 : decode cX11_distance 41 = .ok (.iadd, 1) := by decide +kernel
theorem dX11_distance_42 : decode cX11_distance 42 = .ok (.iconst 1, 1) := by decide +kernel
theorem dX11_distance_43 : decode cX11_distance 43 = .ok (.isub, 1) := by decide +kernel
theorem dX11_distance_44 : decode cX11_distance 44 = .ok (.baload, 1) := by decide +kernel
theorem dX11_distance_45 : decode cX11_distance 45 = .ok (.imul, 1) := by decide +kernel
theorem dX11_distance_46 : decode cX11_distance 46 = .ok (.aload_n 3, 1) := by decide +kernel
theorem dX11_distance_47 : decode cX11_distance 47 = .ok (.iload 4, 2) := by decide +kernel
theorem dX11_distance_49 : decode cX11_distance 49 = .ok (.iload 6, 2) := by decide +kernel
theorem dX11_distance_51 : decode cX11_distance 51 = .ok (.iadd, 1) := by decide +kernel
theorem dX11_distance_52 : decode cX11_distance 52 = .ok (.iconst 1, 1) := by decide +kernel
theorem dX11_distance_53 : decode cX11_distance 53 = .ok (.isub, 1) := by decide +kernel
theorem dX11_distance_54 : decode cX11_distance 54 = .ok (.baload, 1) := by decide +kernel
theorem dX11_distance_55 : decode cX11_distance 55 = .ok (.iadd, 1) := by decide +kernel
theorem dX11_distance_56 : decode cX11_distance 56 = .ok (.iaload, 1) := by decide +kernel
theorem dX11_distance_57 : decode cX11_distance 57 = .ok (.iadd, 1) := by decide +kernel
theorem dX11_distance_58 : decode cX11_distance 58 = .ok (.iastore, 1) := by decide +kernel
theorem dX11_distance_59 : decode cX11_distance 59 = .ok (.iload 6, 2) := by decide +kernel
theorem dX11_distance_61 : decode cX11_distance 61 = .ok (.iconst 1, 1) := by decide +kernel
theorem dX11_distance_62 : decode cX11_distance 62 = .ok (.if_icmp .le 54, 3) := by decide +kernel
theorem dX11_distance_65 : decode cX11_distance 65 = .ok (.aload_n 0, 1) := by decide +kernel
theorem dX11_distance_66 : decode cX11_distance 66 = .ok (.getfield 94, 3) := by decide +kernel
theorem dX11_distance_69 : decode cX11_distance 69 = .ok (.ifCond .le 47, 3) := by decide +kernel
theorem dX11_distance_72 : decode cX11_distance 72 = .ok (.aload_n 1, 1) := by decide +kernel
theorem dX11_distance_73 : decode cX11_distance 73 = .ok (.iload_n 2, 1) := by decide +kernel
theorem dX11_distance_74 : decode cX11_distance 74 = .ok (.iload 6, 2) := by decide +kernel
theorem dX11_distance_76 : decode cX11_distance 76 = .ok (.iadd, 1) := by decide +kernel
theorem dX11_distance_77 : decode cX11_distance 77 = .ok (.iconst 1, 1) := by decide +kernel
theorem dX11_distance_78 : decode cX11_distance 78 = .ok (.isub, 1) := by decide +kernel
theorem dX11_distance_79 : decode cX11_distance 79 = .ok (.baload, 1) := by decide +kernel
theorem dX11_distance_80 : decode cX11_distance 80 = .ok (.aload_n 3, 1) := by decide +kernel
theorem dX11_distance_81 : decode cX11_distance 81 = .ok (.iload 4, 2) := by decide +kernel
theorem dX11_distance_83 : decode cX11_distance 83 = .ok (.iload 6, 2) := by decide +kernel
theorem dX11_distance_85 : decode cX11_distance 85 = .ok (.iadd, 1) := by decide +kernel
theorem dX11_distance_86 : decode cX11_distance 86 = .ok (.iconst 2, 1) := by decide +kernel
theorem dX11_distance_87 : decode cX11_distance 87 = .ok (.isub, 1) := by decide +kernel
theorem dX11_distance_88 : decode cX11_distance 88 = .ok (.baload, 1) := by decide +kernel
theorem dX11_distance_89 : decode cX11_distance 89 = .ok (.if_icmp .ne 27, 3) := by decide +kernel
theorem dX11_distance_92 : decode cX11_distance 92 = .ok (.aload_n 1, 1) := by decide +kernel
theorem dX11_distance_93 : decode cX11_distance 93 = .ok (.iload_n 2, 1) := by decide +kernel
theorem dX11_distance_94 : decode cX11_distance 94 = .ok (.iload 6, 2) := by decide +kernel
theorem dX11_distance_96 : decode cX11_distance 96 = .ok (.iadd, 1) := by decide +kernel
theorem dX11_distance_97 : decode cX11_distance 97 = .ok (.iconst 2, 1) := by decide +kernel
theorem dX11_distance_98 : decode cX11_distance 98 = .ok (.isub, 1) := by decide +kernel
theorem dX11_distance_99 : decode cX11_distance 99 = .ok (.baload, 1) := by decide +kernel
theorem dX11_distance_100 : decode cX11_distance 100 = .ok (.aload_n 3, 1) := by decide +kernel
theorem dX11_distance_101 : decode cX11_distance 101 = .ok (.iload 4, 2) := by decide +kernel
theorem dX11_distance_103 : decode cX11_distance 103 = .ok (.iload 6, 2) := by decide +kernel
theorem dX11_distance_105 : decode cX11_distance 105 = .ok (.iadd, 1) := by decide +kernel
theorem dX11_distance_106 : decode cX11_distance 106 = .ok (.iconst 1, 1) := by decide +kernel
theorem dX11_distance_107 : decode cX11_distance 107 = .ok (.isub, 1) := by decide +kernel
theorem dX11_distance_108 : decode cX11_distance 108 = .ok (.baload, 1) := by decide +kernel
theorem dX11_distance_109 : decode cX11_distance 109 = .ok (.if_icmp .ne 7, 3) := by decide +kernel
theorem dX11_distance_112 : decode cX11_distance 112 = .ok (.iconst 1, 1) := by decide +kernel
theorem dX11_distance_113 : decode cX11_distance 113 = .ok (.goto 4, 3) := by decide +kernel
theorem dX11_distance_116 : decode cX11_distance 116 = .ok (.iconst 0, 1) := by decide +kernel
theorem dX11_distance_117 : decode cX11_distance 117 = .ok (.istore 7, 2) := by decide +kernel
theorem dX11_distance_119 : decode cX11_distance 119 = .ok (.iload 7, 2) := by decide +kernel
theorem dX11_distance_121 : decode cX11_distance 121 = .ok (.ifCond .eq 34, 3) := by decide +kernel
theorem dX11_distance_124 : decode cX11_distance 124 = .ok (.aload_n 0, 1) := by decide +kernel
theorem dX11_distance_125 : decode cX11_distance 125 = .ok (.getfield 42, 3) := by decide +kernel
theorem dX11_distance_128 : decode cX11_distance 128 = .ok (.iload 6, 2) := by decide +kernel
theorem dX11_distance_130 : decode cX11_distance 130 = .ok (.aload_n 0, 1) := by decide +kernel
theorem dX11_distance_131 : decode cX11_distance 131 = .ok (.getfield 42, 3) := by decide +kernel
theorem dX11_distance_134 : decode cX11_distance 134 = .ok (.iload 6, 2) := by decide +kernel
theorem dX11_distance_136 : decode cX11_distance 136 = .ok (.iaload, 1) := by decide +kernel
theorem dX11_distance_137 : decode cX11_distance 137 = .ok (.aload_n 0, 1) := by decide +kernel
theorem dX11_distance_138 : decode cX11_distance 138 = .ok (.getfield 42, 3) := by decide +kernel
theorem dX11_distance_141 : decode cX11_distance 141 = .ok (.iload 6, 2) := by decide +kernel
theorem dX11_distance_143 : decode cX11_distance 143 = .ok (.iconst 2, 1) := by decide +kernel
theorem dX11_distance_144 : decode cX11_distance 144 = .ok (.isub, 1) := by decide +kernel
theorem dX11_distance_145 : decode cX11_distance 145 = .ok (.iaload, 1) := by decide +kernel
theorem dX11_distance_146 : decode cX11_distance 146 = .ok (.aload_n 0, 1) := by decide +kernel
theorem dX11_distance_147 : decode cX11_distance 147 = .ok (.getfield 94, 3) := by decide +kernel
theorem dX11_distance_150 : decode cX11_distance 150 = .ok (.iadd, 1) := by decide +kernel
theorem dX11_distance_151 : decode cX11_distance 151 = .ok (.invokestatic 117, 3) := by decide +kernel
theorem dX11_distance_154 : decode cX11_distance 154 = .ok (.iastore, 1) := by decide +kernel
theorem dX11_distance_155 : decode cX11_distance 155 = .ok (.iinc 6 1, 3) := by decide +kernel
theorem dX11_distance_158 : decode cX11_distance 158 = .ok (.goto (-148), 3) := by decide +kernel
theorem dX11_distance_161 : decode cX11_distance 161 = .ok (.aload_n 0, 1) := by decide +kernel
theorem dX11_distance_162 : decode cX11_distance 162 = .ok (.getfield 42, 3) := by decide +kernel
theorem dX11_distance_165 : decode cX11_distance 165 = .ok (.iload 5, 2) := by decide +kernel
theorem dX11_distance_167 : decode cX11_distance 167 = .ok (.iaload, 1) := by decide +kernel
theorem dX11_distance_168 : decode cX11_distance 168 = .ok (.ireturn, 1) := by decide +kernel
theorem dX11_apart_0 : decode cX11_apart 0 = .ok (.aload_n 0, 1) := by decide +kernel
theorem dX11_apart_1 : decode cX11_apart 1 = .ok (.iconst 0, 1) := by decide +kernel
theorem dX11_apart_2 : decode cX11_apart 2 = .ok (.putfield 1, 3) := by decide +kernel
theorem dX11_apart_5 : decode cX11_apart 5 = .ok (.aload_n 0, 1) := by decide +kernel
theorem dX11_apart_6 : decode cX11_apart 6 = .ok (.iload_n 1, 1) := by decide +kernel
theorem dX11_apart_7 : decode cX11_apart 7 = .ok (.invokevirtual 113, 3) := by decide +kernel
theorem dX11_apart_10 : decode cX11_apart 10 = .ok (.ifCond .eq 38, 3) := by decide +kernel
theorem dX11_apart_13 : decode cX11_apart 13 = .ok (.aload_n 0, 1) := by decide +kernel
theorem dX11_apart_14 : decode cX11_apart 14 = .ok (.iload_n 2, 1) := by decide +kernel
theorem dX11_apart_15 : decode cX11_apart 15 = .ok (.invokevirtual 113, 3) := by decide +kernel
theorem dX11_apart_18 : decode cX11_apart 18 = .ok (.ifCond .eq 30, 3) := by decide +kernel
theorem dX11_apart_21 : decode cX11_apart 21 = .ok (.aload_n 0, 1) := by decide +kernel
theorem dX11_apart_22 : decode cX11_apart 22 = .ok (.aload_n 0, 1) := by decide +kernel
theorem dX11_apart_23 : decode cX11_apart 23 = .ok (.getfield 23, 3) := by decide +kernel
theorem dX11_apart_26 : decode cX11_apart 26 = .ok (.bipush 7, 2) := by decide +kernel
theorem dX11_apart_28 : decode cX11_apart 28 = .ok (.iload_n 1, 1) := by decide +kernel
theorem dX11_apart_29 : decode cX11_apart 29 = .ok (.imul, 1) := by decide +kernel
theorem dX11_apart_30 : decode cX11_apart 30 = .ok (.aload_n 0, 1) := by decide +kernel
theorem dX11_apart_31 : decode cX11_apart 31 = .ok (.getfield 23, 3) := by decide +kernel
theorem dX11_apart_34 : decode cX11_apart 34 = .ok (.bipush 7, 2) := by decide +kernel
theorem dX11_apart_36 : decode cX11_apart 36 = .ok (.iload_n 2, 1) := by decide +kernel
theorem dX11_apart_37 : decode cX11_apart 37 = .ok (.imul, 1) := by decide +kernel
theorem dX11_apart_38 : decode cX11_apart 38 = .ok (.aload_n 0, 1) := by decide +kernel
theorem dX11_apart_39 : decode cX11_apart 39 = .ok (.getfield 110, 3) := by decide +kernel
theorem dX11_apart_42 : decode cX11_apart 42 = .ok (.invokevirtual 123, 3) := by decide +kernel
theorem dX11_apart_45 : decode cX11_apart 45 = .ok (.goto 4, 3) := by decide +kernel
theorem dX11_apart_48 : decode cX11_apart 48 = .ok (.iconst (-1), 1) := by decide +kernel
theorem dX11_apart_49 : decode cX11_apart 49 = .ok (.ireturn, 1) := by decide +kernel
theorem dX11_from_0 : decode cX11_from 0 = .ok (.aload_n 0, 1) := by decide +kernel
theorem dX11_from_1 : decode cX11_from 1 = .ok (.iconst 0, 1) := by decide +kernel
theorem dX11_from_2 : decode cX11_from 2 = .ok (.putfield 1, 3) := by decide +kernel
theorem dX11_from_5 : decode cX11_from 5 = .ok (.aload_n 0, 1) := by decide +kernel
theorem dX11_from_6 : decode cX11_from 6 = .ok (.aload_n 0, 1) := by decide +kernel
theorem dX11_from_7 : decode cX11_from 7 = .ok (.getfield 85, 3) := by decide +kernel
theorem dX11_from_10 : decode cX11_from 10 = .ok (.ifCond .ne 8, 3) := by decide +kernel
theorem dX11_from_13 : decode cX11_from 13 = .ok (.bipush 41, 2) := by decide +kernel
theorem dX11_from_15 : decode cX11_from 15 = .ok (.goto 7, 3) := by decide +kernel
theorem dX11_from_18 : decode cX11_from 18 = .ok (.aload_n 0, 1) := by decide +kernel
theorem dX11_from_19 : decode cX11_from 19 = .ok (.getfield 110, 3) := by decide +kernel
theorem dX11_from_22 : decode cX11_from 22 = .ok (.aload_n 0, 1) := by decide +kernel
theorem dX11_from_23 : decode cX11_from 23 = .ok (.getfield 110, 3) := by decide +kernel
theorem dX11_from_26 : decode cX11_from 26 = .ok (.invokevirtual 106, 3) := by decide +kernel
theorem dX11_from_29 : decode cX11_from 29 = .ok (.istore_n 2, 1) := by decide +kernel
theorem dX11_from_30 : decode cX11_from 30 = .ok (.iload_n 2, 1) := by decide +kernel
theorem dX11_from_31 : decode cX11_from 31 = .ok (.ifCond .eq 35, 3) := by decide +kernel
theorem dX11_from_34 : decode cX11_from 34 = .ok (.aload_n 0, 1) := by decide +kernel
theorem dX11_from_35 : decode cX11_from 35 = .ok (.iload_n 1, 1) := by decide +kernel
theorem dX11_from_36 : decode cX11_from 36 = .ok (.invokevirtual 113, 3) := by decide +kernel
theorem dX11_from_39 : decode cX11_from 39 = .ok (.ifCond .eq 27, 3) := by decide +kernel
theorem dX11_from_42 : decode cX11_from 42 = .ok (.aload_n 0, 1) := by decide +kernel
theorem dX11_from_43 : decode cX11_from 43 = .ok (.aload_n 0, 1) := by decide +kernel
theorem dX11_from_44 : decode cX11_from 44 = .ok (.getfield 39, 3) := by decide +kernel
theorem dX11_from_47 : decode cX11_from 47 = .ok (.iconst 0, 1) := by decide +kernel
theorem dX11_from_48 : decode cX11_from 48 = .ok (.aload_n 0, 1) := by decide +kernel
theorem dX11_from_49 : decode cX11_from 49 = .ok (.getfield 23, 3) := by decide +kernel
theorem dX11_from_52 : decode cX11_from 52 = .ok (.bipush 7, 2) := by decide +kernel
theorem dX11_from_54 : decode cX11_from 54 = .ok (.iload_n 1, 1) := by decide +kernel
theorem dX11_from_55 : decode cX11_from 55 = .ok (.imul, 1) := by decide +kernel
theorem dX11_from_56 : decode cX11_from 56 = .ok (.aload_n 0, 1) := by decide +kernel
theorem dX11_from_57 : decode cX11_from 57 = .ok (.getfield 110, 3) := by decide +kernel
theorem dX11_from_60 : decode cX11_from 60 = .ok (.invokevirtual 123, 3) := by decide +kernel
theorem dX11_from_63 : decode cX11_from 63 = .ok (.goto 4, 3) := by decide +kernel
theorem dX11_from_66 : decode cX11_from 66 = .ok (.iconst (-1), 1) := by decide +kernel
theorem dX11_from_67 : decode cX11_from 67 = .ok (.ireturn, 1) := by decide +kernel
theorem dX11_power_0 : decode cX11_power 0 = .ok (.iconst 1, 1) := by decide +kernel
theorem dX11_power_1 : decode cX11_power 1 = .ok (.istore_n 2, 1) := by decide +kernel
theorem dX11_power_2 : decode cX11_power 2 = .ok (.iconst 0, 1) := by decide +kernel
theorem dX11_power_3 : decode cX11_power 3 = .ok (.istore_n 3, 1) := by decide +kernel
theorem dX11_power_4 : decode cX11_power 4 = .ok (.iload_n 3, 1) := by decide +kernel
theorem dX11_power_5 : decode cX11_power 5 = .ok (.iload_n 1, 1) := by decide +kernel
theorem dX11_power_6 : decode cX11_power 6 = .ok (.if_icmp .ge 13, 3) := by decide +kernel
theorem dX11_power_9 : decode cX11_power 9 = .ok (.iload_n 2, 1) := by decide +kernel
theorem dX11_power_10 : decode cX11_power 10 = .ok (.iload_n 0, 1) := by decide +kernel
theorem dX11_power_11 : decode cX11_power 11 = .ok (.imul, 1) := by decide +kernel
theorem dX11_power_12 : decode cX11_power 12 = .ok (.istore_n 2, 1) := by decide +kernel
theorem dX11_power_13 : decode cX11_power 13 = .ok (.iinc 3 1, 3) := by decide +kernel
theorem dX11_power_16 : decode cX11_power 16 = .ok (.goto (-12), 3) := by decide +kernel
theorem dX11_power_19 : decode cX11_power 19 = .ok (.iload_n 2, 1) := by decide +kernel
theorem dX11_power_20 : decode cX11_power 20 = .ok (.ireturn, 1) := by decide +kernel
theorem dX11_lays_0 : decode cX11_lays 0 = .ok (.iload_n 1, 1) := by decide +kernel
theorem dX11_lays_1 : decode cX11_lays 1 = .ok (.istore_n 3, 1) := by decide +kernel
theorem dX11_lays_2 : decode cX11_lays 2 = .ok (.iload_n 2, 1) := by decide +kernel
theorem dX11_lays_3 : decode cX11_lays 3 = .ok (.iconst 1, 1) := by decide +kernel
theorem dX11_lays_4 : decode cX11_lays 4 = .ok (.isub, 1) := by decide +kernel
theorem dX11_lays_5 : decode cX11_lays 5 = .ok (.istore 4, 2) := by decide +kernel
theorem dX11_lays_7 : decode cX11_lays 7 = .ok (.iload 4, 2) := by decide +kernel
theorem dX11_lays_9 : decode cX11_lays 9 = .ok (.ifCond .lt 30, 3) := by decide +kernel
theorem dX11_lays_12 : decode cX11_lays 12 = .ok (.aload_n 0, 1) := by decide +kernel
theorem dX11_lays_13 : decode cX11_lays 13 = .ok (.getfield 49, 3) := by decide +kernel
theorem dX11_lays_16 : decode cX11_lays 16 = .ok (.iload 4, 2) := by decide +kernel
theorem dX11_lays_18 : decode cX11_lays 18 = .ok (.iload_n 3, 1) := by decide +kernel
theorem dX11_lays_19 : decode cX11_lays 19 = .ok (.aload_n 0, 1) := by decide +kernel
theorem dX11_lays_20 : decode cX11_lays 20 = .ok (.getfield 13, 3) := by decide +kernel
theorem dX11_lays_23 : decode cX11_lays 23 = .ok (.irem, 1) := by decide +kernel
theorem dX11_lays_24 : decode cX11_lays 24 = .ok (.i2b, 1) := by decide +kernel
theorem dX11_lays_25 : decode cX11_lays 25 = .ok (.bastore, 1) := by decide +kernel
theorem dX11_lays_26 : decode cX11_lays 26 = .ok (.iload_n 3, 1) := by decide +kernel
theorem dX11_lays_27 : decode cX11_lays 27 = .ok (.aload_n 0, 1) := by decide +kernel
theorem dX11_lays_28 : decode cX11_lays 28 = .ok (.getfield 13, 3) := by decide +kernel
theorem dX11_lays_31 : decode cX11_lays 31 = .ok (.idiv, 1) := by decide +kernel
theorem dX11_lays_32 : decode cX11_lays 32 = .ok (.istore_n 3, 1) := by decide +kernel
theorem dX11_lays_33 : decode cX11_lays 33 = .ok (.iinc 4 (-1), 3) := by decide +kernel
theorem dX11_lays_36 : decode cX11_lays 36 = .ok (.goto (-29), 3) := by decide +kernel
theorem dX11_lays_39 : decode cX11_lays 39 = .ok (.return_, 1) := by decide +kernel
theorem dX11_rows_0 : decode cX11_rows 0 = .ok (.aload_n 0, 1) := by decide +kernel
theorem dX11_rows_1 : decode cX11_rows 1 = .ok (.getfield 13, 3) := by decide +kernel
theorem dX11_rows_4 : decode cX11_rows 4 = .ok (.aload_n 0, 1) := by decide +kernel
theorem dX11_rows_5 : decode cX11_rows 5 = .ok (.getfield 110, 3) := by decide +kernel
theorem dX11_rows_8 : decode cX11_rows 8 = .ok (.invokestatic 127, 3) := by decide +kernel
theorem dX11_rows_11 : decode cX11_rows 11 = .ok (.ireturn, 1) := by decide +kernel
theorem dX11_knows_0 : decode cX11_knows 0 = .ok (.aload_n 0, 1) := by decide +kernel
theorem dX11_knows_1 : decode cX11_knows 1 = .ok (.getfield 71, 3) := by decide +kernel
theorem dX11_knows_4 : decode cX11_knows 4 = .ok (.ifCond .eq 4, 3) := by decide +kernel
theorem dX11_knows_7 : decode cX11_knows 7 = .ok (.return_, 1) := by decide +kernel
theorem dX11_knows_8 : decode cX11_knows 8 = .ok (.iconst 0, 1) := by decide +kernel
theorem dX11_knows_9 : decode cX11_knows 9 = .ok (.istore_n 1, 1) := by decide +kernel
theorem dX11_knows_10 : decode cX11_knows 10 = .ok (.iload_n 1, 1) := by decide +kernel
theorem dX11_knows_11 : decode cX11_knows 11 = .ok (.aload_n 0, 1) := by decide +kernel
theorem dX11_knows_12 : decode cX11_knows 12 = .ok (.invokevirtual 130, 3) := by decide +kernel
theorem dX11_knows_15 : decode cX11_knows 15 = .ok (.if_icmp .ge 67, 3) := by decide +kernel
theorem dX11_knows_18 : decode cX11_knows 18 = .ok (.aload_n 0, 1) := by decide +kernel
theorem dX11_knows_19 : decode cX11_knows 19 = .ok (.iload_n 1, 1) := by decide +kernel
theorem dX11_knows_20 : decode cX11_knows 20 = .ok (.aload_n 0, 1) := by decide +kernel
theorem dX11_knows_21 : decode cX11_knows 21 = .ok (.getfield 110, 3) := by decide +kernel
theorem dX11_knows_24 : decode cX11_knows 24 = .ok (.invokevirtual 134, 3) := by decide +kernel
theorem dX11_knows_27 : decode cX11_knows 27 = .ok (.iconst 0, 1) := by decide +kernel
theorem dX11_knows_28 : decode cX11_knows 28 = .ok (.istore_n 2, 1) := by decide +kernel
theorem dX11_knows_29 : decode cX11_knows 29 = .ok (.iload_n 2, 1) := by decide +kernel
theorem dX11_knows_30 : decode cX11_knows 30 = .ok (.aload_n 0, 1) := by decide +kernel
theorem dX11_knows_31 : decode cX11_knows 31 = .ok (.getfield 85, 3) := by decide +kernel
theorem dX11_knows_34 : decode cX11_knows 34 = .ok (.if_icmp .ge 42, 3) := by decide +kernel
theorem dX11_knows_37 : decode cX11_knows 37 = .ok (.aload_n 0, 1) := by decide +kernel
theorem dX11_knows_38 : decode cX11_knows 38 = .ok (.getfield 46, 3) := by decide +kernel
