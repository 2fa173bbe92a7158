theorem dX11_nearestPiece_24 : decode cX11_nearestPiece 24 = .ok (.aload_n 0, 1) := by decide +kernel
theorem dX11_nearestPiece_25 : decode cX11_nearestPiece 25 = .ok (.getfield 30, 3) := by decide +kernel
theorem dX11_nearestPiece_28 : decode cX11_nearestPiece 28 = .ok (.bipush 24, 2) := by decide +kernel
theorem dX11_nearestPiece_30 : decode cX11_nearestPiece 30 = .ok (.iload_n 1, 1) := by decide +kernel
theorem dX11_nearestPiece_31 : decode cX11_nearestPiece 31 = .ok (.imul, 1) := by decide +kernel
theorem dX11_nearestPiece_32 : decode cX11_nearestPiece 32 = .ok (.iload 4, 2) := by decide +kernel
theorem dX11_nearestPiece_34 : decode cX11_nearestPiece 34 = .ok (.iadd, 1) := by decide +kernel
theorem dX11_nearestPiece_35 : decode cX11_nearestPiece 35 = .ok (.iload_n 2, 1) := by decide +kernel
theorem dX11_nearestPiece_36 : decode cX11_nearestPiece 36 = .ok (.invokevirtual 123, 3) := by decide +kernel
theorem dX11_nearestPiece_39 : decode cX11_nearestPiece 39 = .ok (.aload_n 0, 1) := by decide +kernel
theorem dX11_nearestPiece_40 : decode cX11_nearestPiece 40 = .ok (.aload_n 0, 1) := by decide +kernel
theorem dX11_nearestPiece_41 : decode cX11_nearestPiece 41 = .ok (.getfield 49, 3) := by decide +kernel
theorem dX11_nearestPiece_44 : decode cX11_nearestPiece 44 = .ok (.iconst 0, 1) := by decide +kernel
theorem dX11_nearestPiece_45 : decode cX11_nearestPiece 45 = .ok (.aload_n 0, 1) := by decide +kernel
theorem dX11_nearestPiece_46 : decode cX11_nearestPiece 46 = .ok (.getfield 30, 3) := by decide +kernel
theorem dX11_nearestPiece_49 : decode cX11_nearestPiece 49 = .ok (.bipush 24, 2) := by decide +kernel
theorem dX11_nearestPiece_51 : decode cX11_nearestPiece 51 = .ok (.iload_n 1, 1) := by decide +kernel
theorem dX11_nearestPiece_52 : decode cX11_nearestPiece 52 = .ok (.imul, 1) := by decide +kernel
theorem dX11_nearestPiece_53 : decode cX11_nearestPiece 53 = .ok (.iload_n 3, 1) := by decide +kernel
theorem dX11_nearestPiece_54 : decode cX11_nearestPiece 54 = .ok (.iadd, 1) := by decide +kernel
theorem dX11_nearestPiece_55 : decode cX11_nearestPiece 55 = .ok (.iload_n 2, 1) := by decide +kernel
theorem dX11_nearestPiece_56 : decode cX11_nearestPiece 56 = .ok (.invokevirtual 123, 3) := by decide +kernel
theorem dX11_nearestPiece_59 : decode cX11_nearestPiece 59 = .ok (.if_icmp .ge 6, 3) := by decide +kernel
theorem dX11_nearestPiece_62 : decode cX11_nearestPiece 62 = .ok (.iload 4, 2) := by decide +kernel
theorem dX11_nearestPiece_64 : decode cX11_nearestPiece 64 = .ok (.istore_n 3, 1) := by decide +kernel
theorem dX11_nearestPiece_65 : decode cX11_nearestPiece 65 = .ok (.iinc 4 1, 3) := by decide +kernel
theorem dX11_nearestPiece_68 : decode cX11_nearestPiece 68 = .ok (.goto (-63), 3) := by decide +kernel
theorem dX11_nearestPiece_71 : decode cX11_nearestPiece 71 = .ok (.iload_n 3, 1) := by decide +kernel
theorem dX11_nearestPiece_72 : decode cX11_nearestPiece 72 = .ok (.ireturn, 1) := by decide +kernel
theorem dX11_pieceFar_0 : decode cX11_pieceFar 0 = .ok (.bipush 100, 2) := by decide +kernel
theorem dX11_pieceFar_2 : decode cX11_pieceFar 2 = .ok (.istore_n 3, 1) := by decide +kernel
theorem dX11_pieceFar_3 : decode cX11_pieceFar 3 = .ok (.iconst 0, 1) := by decide +kernel
theorem dX11_pieceFar_4 : decode cX11_pieceFar 4 = .ok (.istore 4, 2) := by decide +kernel
theorem dX11_pieceFar_6 : decode cX11_pieceFar 6 = .ok (.iload 4, 2) := by decide +kernel
theorem dX11_pieceFar_8 : decode cX11_pieceFar 8 = .ok (.iload_n 2, 1) := by decide +kernel
theorem dX11_pieceFar_9 : decode cX11_pieceFar 9 = .ok (.iadd, 1) := by decide +kernel
theorem dX11_pieceFar_10 : decode cX11_pieceFar 10 = .ok (.aload_n 0, 1) := by decide +kernel
theorem dX11_pieceFar_11 : decode cX11_pieceFar 11 = .ok (.getfield 33, 3) := by decide +kernel
theorem dX11_pieceFar_14 : decode cX11_pieceFar 14 = .ok (.iload_n 1, 1) := by decide +kernel
theorem dX11_pieceFar_15 : decode cX11_pieceFar 15 = .ok (.iaload, 1) := by decide +kernel
theorem dX11_pieceFar_16 : decode cX11_pieceFar 16 = .ok (.if_icmp .gt 35, 3) := by decide +kernel
theorem dX11_pieceFar_19 : decode cX11_pieceFar 19 = .ok (.iload_n 3, 1) := by decide +kernel
theorem dX11_pieceFar_20 : decode cX11_pieceFar 20 = .ok (.aload_n 0, 1) := by decide +kernel
theorem dX11_pieceFar_21 : decode cX11_pieceFar 21 = .ok (.aload_n 0, 1) := by decide +kernel
theorem dX11_pieceFar_22 : decode cX11_pieceFar 22 = .ok (.getfield 49, 3) := by decide +kernel
theorem dX11_pieceFar_25 : decode cX11_pieceFar 25 = .ok (.iconst 0, 1) := by decide +kernel
theorem dX11_pieceFar_26 : decode cX11_pieceFar 26 = .ok (.aload_n 0, 1) := by decide +kernel
theorem dX11_pieceFar_27 : decode cX11_pieceFar 27 = .ok (.getfield 30, 3) := by decide +kernel
theorem dX11_pieceFar_30 : decode cX11_pieceFar 30 = .ok (.bipush 24, 2) := by decide +kernel
theorem dX11_pieceFar_32 : decode cX11_pieceFar 32 = .ok (.iload_n 1, 1) := by decide +kernel
theorem dX11_pieceFar_33 : decode cX11_pieceFar 33 = .ok (.imul, 1) := by decide +kernel
theorem dX11_pieceFar_34 : decode cX11_pieceFar 34 = .ok (.iload 4, 2) := by decide +kernel
theorem dX11_pieceFar_36 : decode cX11_pieceFar 36 = .ok (.iadd, 1) := by decide +kernel
theorem dX11_pieceFar_37 : decode cX11_pieceFar 37 = .ok (.iload_n 2, 1) := by decide +kernel
theorem dX11_pieceFar_38 : decode cX11_pieceFar 38 = .ok (.invokevirtual 123, 3) := by decide +kernel
theorem dX11_pieceFar_41 : decode cX11_pieceFar 41 = .ok (.invokestatic 117, 3) := by decide +kernel
theorem dX11_pieceFar_44 : decode cX11_pieceFar 44 = .ok (.istore_n 3, 1) := by decide +kernel
theorem dX11_pieceFar_45 : decode cX11_pieceFar 45 = .ok (.iinc 4 1, 3) := by decide +kernel
theorem dX11_pieceFar_48 : decode cX11_pieceFar 48 = .ok (.goto (-42), 3) := by decide +kernel
theorem dX11_pieceFar_51 : decode cX11_pieceFar 51 = .ok (.iload_n 3, 1) := by decide +kernel
theorem dX11_pieceFar_52 : decode cX11_pieceFar 52 = .ok (.ireturn, 1) := by decide +kernel
theorem dX11_hasMotif_0 : decode cX11_hasMotif 0 = .ok (.iload_n 1, 1) := by decide +kernel
theorem dX11_hasMotif_1 : decode cX11_hasMotif 1 = .ok (.iconst 1, 1) := by decide +kernel
theorem dX11_hasMotif_2 : decode cX11_hasMotif 2 = .ok (.bipush 6, 2) := by decide +kernel
theorem dX11_hasMotif_4 : decode cX11_hasMotif 4 = .ok (.invokestatic 81, 3) := by decide +kernel
theorem dX11_hasMotif_7 : decode cX11_hasMotif 7 = .ok (.ifCond .eq 10, 3) := by decide +kernel
theorem dX11_hasMotif_10 : decode cX11_hasMotif 10 = .ok (.aload_n 0, 1) := by decide +kernel
theorem dX11_hasMotif_11 : decode cX11_hasMotif 11 = .ok (.getfield 88, 3) := by decide +kernel
theorem dX11_hasMotif_14 : decode cX11_hasMotif 14 = .ok (.ifCond .ne 5, 3) := by decide +kernel
theorem dX11_hasMotif_17 : decode cX11_hasMotif 17 = .ok (.iconst 0, 1) := by decide +kernel
theorem dX11_hasMotif_18 : decode cX11_hasMotif 18 = .ok (.ireturn, 1) := by decide +kernel
theorem dX11_hasMotif_19 : decode cX11_hasMotif 19 = .ok (.iconst 0, 1) := by decide +kernel
theorem dX11_hasMotif_20 : decode cX11_hasMotif 20 = .ok (.istore_n 2, 1) := by decide +kernel
theorem dX11_hasMotif_21 : decode cX11_hasMotif 21 = .ok (.iload_n 2, 1) := by decide +kernel
theorem dX11_hasMotif_22 : decode cX11_hasMotif 22 = .ok (.aload_n 0, 1) := by decide +kernel
theorem dX11_hasMotif_23 : decode cX11_hasMotif 23 = .ok (.getfield 88, 3) := by decide +kernel
theorem dX11_hasMotif_26 : decode cX11_hasMotif 26 = .ok (.if_icmp .ge 21, 3) := by decide +kernel
theorem dX11_hasMotif_29 : decode cX11_hasMotif 29 = .ok (.aload_n 0, 1) := by decide +kernel
theorem dX11_hasMotif_30 : decode cX11_hasMotif 30 = .ok (.getfield 33, 3) := by decide +kernel
theorem dX11_hasMotif_33 : decode cX11_hasMotif 33 = .ok (.iload_n 2, 1) := by decide +kernel
theorem dX11_hasMotif_34 : decode cX11_hasMotif 34 = .ok (.iaload, 1) := by decide +kernel
theorem dX11_hasMotif_35 : decode cX11_hasMotif 35 = .ok (.iload_n 1, 1) := by decide +kernel
theorem dX11_hasMotif_36 : decode cX11_hasMotif 36 = .ok (.if_icmp .ge 5, 3) := by decide +kernel
theorem dX11_hasMotif_39 : decode cX11_hasMotif 39 = .ok (.iconst 0, 1) := by decide +kernel
theorem dX11_hasMotif_40 : decode cX11_hasMotif 40 = .ok (.ireturn, 1) := by decide +kernel
theorem dX11_hasMotif_41 : decode cX11_hasMotif 41 = .ok (.iinc 2 1, 3) := by decide +kernel
theorem dX11_hasMotif_44 : decode cX11_hasMotif 44 = .ok (.goto (-23), 3) := by decide +kernel
theorem dX11_hasMotif_47 : decode cX11_hasMotif 47 = .ok (.aload_n 0, 1) := by decide +kernel
theorem dX11_hasMotif_48 : decode cX11_hasMotif 48 = .ok (.getfield 78, 3) := by decide +kernel
theorem dX11_hasMotif_51 : decode cX11_hasMotif 51 = .ok (.iload_n 1, 1) := by decide +kernel
theorem dX11_hasMotif_52 : decode cX11_hasMotif 52 = .ok (.if_icmp .ne 5, 3) := by decide +kernel
theorem dX11_hasMotif_55 : decode cX11_hasMotif 55 = .ok (.iconst 1, 1) := by decide +kernel
theorem dX11_hasMotif_56 : decode cX11_hasMotif 56 = .ok (.ireturn, 1) := by decide +kernel
theorem dX11_hasMotif_57 : decode cX11_hasMotif 57 = .ok (.aload_n 0, 1) := by decide +kernel
theorem dX11_hasMotif_58 : decode cX11_hasMotif 58 = .ok (.iconst (-1), 1) := by decide +kernel
theorem dX11_hasMotif_59 : decode cX11_hasMotif 59 = .ok (.putfield 211, 3) := by decide +kernel
theorem dX11_hasMotif_62 : decode cX11_hasMotif 62 = .ok (.iconst 0, 1) := by decide +kernel
theorem dX11_hasMotif_63 : decode cX11_hasMotif 63 = .ok (.istore_n 2, 1) := by decide +kernel
theorem dX11_hasMotif_64 : decode cX11_hasMotif 64 = .ok (.iload_n 2, 1) := by decide +kernel
theorem dX11_hasMotif_65 : decode cX11_hasMotif 65 = .ok (.aload_n 0, 1) := by decide +kernel
theorem dX11_hasMotif_66 : decode cX11_hasMotif 66 = .ok (.getfield 13, 3) := by decide +kernel
theorem dX11_hasMotif_69 : decode cX11_hasMotif 69 = .ok (.iload_n 1, 1) := by decide +kernel
theorem dX11_hasMotif_70 : decode cX11_hasMotif 70 = .ok (.invokestatic 127, 3) := by decide +kernel
theorem dX11_hasMotif_73 : decode cX11_hasMotif 73 = .ok (.if_icmp .ge 76, 3) := by decide +kernel
theorem dX11_hasMotif_76 : decode cX11_hasMotif 76 = .ok (.aload_n 0, 1) := by decide +kernel
theorem dX11_hasMotif_77 : decode cX11_hasMotif 77 = .ok (.iload_n 2, 1) := by decide +kernel
theorem dX11_hasMotif_78 : decode cX11_hasMotif 78 = .ok (.iload_n 1, 1) := by decide +kernel
theorem dX11_hasMotif_79 : decode cX11_hasMotif 79 = .ok (.invokevirtual 134, 3) := by decide +kernel
theorem dX11_hasMotif_82 : decode cX11_hasMotif 82 = .ok (.iconst 0, 1) := by decide +kernel
theorem dX11_hasMotif_83 : decode cX11_hasMotif 83 = .ok (.istore_n 3, 1) := by decide +kernel
theorem dX11_hasMotif_84 : decode cX11_hasMotif 84 = .ok (.iconst 0, 1) := by decide +kernel
theorem dX11_hasMotif_85 : decode cX11_hasMotif 85 = .ok (.istore 4, 2) := by decide +kernel
theorem dX11_hasMotif_87 : decode cX11_hasMotif 87 = .ok (.iload 4, 2) := by decide +kernel
theorem dX11_hasMotif_89 : decode cX11_hasMotif 89 = .ok (.aload_n 0, 1) := by decide +kernel
theorem dX11_hasMotif_90 : decode cX11_hasMotif 90 = .ok (.getfield 88, 3) := by decide +kernel
theorem dX11_hasMotif_93 : decode cX11_hasMotif 93 = .ok (.if_icmp .ge 21, 3) := by decide +kernel
theorem dX11_hasMotif_96 : decode cX11_hasMotif 96 = .ok (.iload_n 3, 1) := by decide +kernel
theorem dX11_hasMotif_97 : decode cX11_hasMotif 97 = .ok (.aload_n 0, 1) := by decide +kernel
theorem dX11_hasMotif_98 : decode cX11_hasMotif 98 = .ok (.iload 4, 2) := by decide +kernel
theorem dX11_hasMotif_100 : decode cX11_hasMotif 100 = .ok (.iload_n 1, 1) := by decide +kernel
theorem dX11_hasMotif_101 : decode cX11_hasMotif 101 = .ok (.invokevirtual 214, 3) := by decide +kernel
theorem dX11_hasMotif_104 : decode cX11_hasMotif 104 = .ok (.invokestatic 138, 3) := by decide +kernel
theorem dX11_hasMotif_107 : decode cX11_hasMotif 107 = .ok (.istore_n 3, 1) := by decide +kernel
theorem dX11_hasMotif_108 : decode cX11_hasMotif 108 = .ok (.iinc 4 1, 3) := by decide +kernel
theorem dX11_hasMotif_111 : decode cX11_hasMotif 111 = .ok (.goto (-24), 3) := by decide +kernel
theorem dX11_hasMotif_114 : decode cX11_hasMotif 114 = .ok (.aload_n 0, 1) := by decide +kernel
theorem dX11_hasMotif_115 : decode cX11_hasMotif 115 = .ok (.getfield 211, 3) := by decide +kernel
theorem dX11_hasMotif_118 : decode cX11_hasMotif 118 = .ok (.iconst (-1), 1) := by decide +kernel
theorem dX11_hasMotif_119 : decode cX11_hasMotif 119 = .ok (.if_icmp .eq 14, 3) := by decide +kernel
theorem dX11_hasMotif_122 : decode cX11_hasMotif 122 = .ok (.iload_n 3, 1) := by decide +kernel
theorem dX11_hasMotif_123 : decode cX11_hasMotif 123 = .ok (.aload_n 0, 1) := by decide +kernel
theorem dX11_hasMotif_124 : decode cX11_hasMotif 124 = .ok (.getfield 217, 3) := by decide +kernel
theorem dX11_hasMotif_127 : decode cX11_hasMotif 127 = .ok (.if_icmp .lt 6, 3) := by decide +kernel
theorem dX11_hasMotif_130 : decode cX11_hasMotif 130 = .ok (.goto 13, 3) := by decide +kernel
theorem dX11_hasMotif_133 : decode cX11_hasMotif 133 = .ok (.aload_n 0, 1) := by decide +kernel
theorem dX11_hasMotif_134 : decode cX11_hasMotif 134 = .ok (.iload_n 2, 1) := by decide +kernel
theorem dX11_hasMotif_135 : decode cX11_hasMotif 135 = .ok (.putfield 211, 3) := by decide +kernel
theorem dX11_hasMotif_138 : decode cX11_hasMotif 138 = .ok (.aload_n 0, 1) := by decide +kernel
theorem dX11_hasMotif_139 : decode cX11_hasMotif 139 = .ok (.iload_n 3, 1) := by decide +kernel
theorem dX11_hasMotif_140 : decode cX11_hasMotif 140 = .ok (.putfield 217, 3) := by decide +kernel
theorem dX11_hasMotif_143 : decode cX11_hasMotif 143 = .ok (.iinc 2 1, 3) := by decide +kernel
theorem dX11_hasMotif_146 : decode cX11_hasMotif 146 = .ok (.goto (-82), 3) := by decide +kernel
theorem dX11_hasMotif_149 : decode cX11_hasMotif 149 = .ok (.aload_n 0, 1) := by decide +kernel
theorem dX11_hasMotif_150 : decode cX11_hasMotif 150 = .ok (.iload_n 1, 1) := by decide +kernel
theorem dX11_hasMotif_151 : decode cX11_hasMotif 151 = .ok (.putfield 78, 3) := by decide +kernel
theorem dX11_hasMotif_154 : decode cX11_hasMotif 154 = .ok (.iconst 1, 1) := by decide +kernel
theorem dX11_hasMotif_155 : decode cX11_hasMotif 155 = .ok (.ireturn, 1) := by decide +kernel
theorem dX11_motif_0 : decode cX11_motif 0 = .ok (.aload_n 0, 1) := by decide +kernel
theorem dX11_motif_1 : decode cX11_motif 1 = .ok (.iconst 0, 1) := by decide +kernel
theorem dX11_motif_2 : decode cX11_motif 2 = .ok (.putfield 1, 3) := by decide +kernel
theorem dX11_motif_5 : decode cX11_motif 5 = .ok (.aload_n 0, 1) := by decide +kernel
theorem dX11_motif_6 : decode cX11_motif 6 = .ok (.iload_n 1, 1) := by decide +kernel
theorem dX11_motif_7 : decode cX11_motif 7 = .ok (.invokevirtual 220, 3) := by decide +kernel
theorem dX11_motif_10 : decode cX11_motif 10 = .ok (.ifCond .eq 10, 3) := by decide +kernel
theorem dX11_motif_13 : decode cX11_motif 13 = .ok (.aload_n 0, 1) := by decide +kernel
theorem dX11_motif_14 : decode cX11_motif 14 = .ok (.getfield 217, 3) := by decide +kernel
theorem dX11_motif_17 : decode cX11_motif 17 = .ok (.goto 4, 3) := by decide +kernel
theorem dX11_motif_20 : decode cX11_motif 20 = .ok (.iconst (-1), 1) := by decide +kernel
theorem dX11_motif_21 : decode cX11_motif 21 = .ok (.ireturn, 1) := by decide +kernel
theorem dX11_motifAt_0 : decode cX11_motifAt 0 = .ok (.aload_n 0, 1) := by decide +kernel
theorem dX11_motifAt_1 : decode cX11_motifAt 1 = .ok (.iconst 0, 1) := by decide +kernel
theorem dX11_motifAt_2 : decode cX11_motifAt 2 = .ok (.putfield 1, 3) := by decide +kernel
theorem dX11_motifAt_5 : decode cX11_motifAt 5 = .ok (.aload_n 0, 1) := by decide +kernel
theorem dX11_motifAt_6 : decode cX11_motifAt 6 = .ok (.iload_n 1, 1) := by decide +kernel
theorem dX11_motifAt_7 : decode cX11_motifAt 7 = .ok (.invokevirtual 220, 3) := by decide +kernel
theorem dX11_motifAt_10 : decode cX11_motifAt 10 = .ok (.ifCond .eq 12, 3) := by decide +kernel
theorem dX11_motifAt_13 : decode cX11_motifAt 13 = .ok (.iload_n 2, 1) := by decide +kernel
theorem dX11_motifAt_14 : decode cX11_motifAt 14 = .ok (.ifCond .lt 8, 3) := by decide +kernel
theorem dX11_motifAt_17 : decode cX11_motifAt 17 = .ok (.iload_n 2, 1) := by decide +kernel
theorem dX11_motifAt_18 : decode cX11_motifAt 18 = .ok (.iload_n 1, 1) := by decide +kernel
theorem dX11_motifAt_19 : decode cX11_motifAt 19 = .ok (.if_icmp .lt 5, 3) := by decide +kernel
theorem dX11_motifAt_22 : decode cX11_motifAt 22 = .ok (.iconst (-1), 1) := by decide +kernel
theorem dX11_motifAt_23 : decode cX11_motifAt 23 = .ok (.ireturn, 1) := by decide +kernel
theorem dX11_motifAt_24 : decode cX11_motifAt 24 = .ok (.aload_n 0, 1) := by decide +kernel
theorem dX11_motifAt_25 : decode cX11_motifAt 25 = .ok (.aload_n 0, 1) := by decide +kernel
theorem dX11_motifAt_26 : decode cX11_motifAt 26 = .ok (.getfield 211, 3) := by decide +kernel
theorem dX11_motifAt_29 : decode cX11_motifAt 29 = .ok (.iload_n 1, 1) := by decide +kernel
theorem dX11_motifAt_30 : decode cX11_motifAt 30 = .ok (.invokevirtual 134, 3) := by decide +kernel
theorem dX11_motifAt_33 : decode cX11_motifAt 33 = .ok (.aload_n 0, 1) := by decide +kernel
theorem dX11_motifAt_34 : decode cX11_motifAt 34 = .ok (.getfield 49, 3) := by decide +kernel
theorem dX11_motifAt_37 : decode cX11_motifAt 37 = .ok (.iload_n 2, 1) := by decide +kernel
theorem dX11_motifAt_38 : decode cX11_motifAt 38 = .ok (.baload, 1) := by decide +kernel
theorem dX11_motifAt_39 : decode cX11_motifAt 39 = .ok (.ireturn, 1) := by decide +kernel
theorem dX11_motifIn_0 : decode cX11_motifIn 0 = .ok (.aload_n 0, 1) := by decide +kernel
theorem dX11_motifIn_1 : decode cX11_motifIn 1 = .ok (.iconst 0, 1) := by decide +kernel
theorem dX11_motifIn_2 : decode cX11_motifIn 2 = .ok (.putfield 1, 3) := by decide +kernel
theorem dX11_motifIn_5 : decode cX11_motifIn 5 = .ok (.aload_n 0, 1) := by decide +kernel
theorem dX11_motifIn_6 : decode cX11_motifIn 6 = .ok (.iload_n 1, 1) := by decide +kernel
theorem dX11_motifIn_7 : decode cX11_motifIn 7 = .ok (.invokevirtual 220, 3) := by decide +kernel
theorem dX11_motifIn_10 : decode cX11_motifIn 10 = .ok (.ifCond .eq 15, 3) := by decide +kernel
theorem dX11_motifIn_13 : decode cX11_motifIn 13 = .ok (.iload_n 2, 1) := by decide +kernel
theorem dX11_motifIn_14 : decode cX11_motifIn 14 = .ok (.ifCond .lt 11, 3) := by decide +kernel
theorem dX11_motifIn_17 : decode cX11_motifIn 17 = .ok (.iload_n 2, 1) := by decide +kernel
theorem dX11_motifIn_18 : decode cX11_motifIn 18 = .ok (.aload_n 0, 1) := by decide +kernel
theorem dX11_motifIn_19 : decode cX11_motifIn 19 = .ok (.getfield 88, 3) := by decide +kernel
theorem dX11_motifIn_22 : decode cX11_motifIn 22 = .ok (.if_icmp .lt 10, 3) := by decide +kernel
theorem dX11_motifIn_25 : decode cX11_motifIn 25 = .ok (.aload_n 0, 1) := by decide +kernel
theorem dX11_motifIn_26 : decode cX11_motifIn 26 = .ok (.iconst 1, 1) := by decide +kernel
theorem dX11_motifIn_27 : decode cX11_motifIn 27 = .ok (.putfield 1, 3) := by decide +kernel
theorem dX11_motifIn_30 : decode cX11_motifIn 30 = .ok (.iconst 0, 1) := by decide +kernel
theorem dX11_motifIn_31 : decode cX11_motifIn 31 = .ok (.ireturn, 1) := by decide +kernel
theorem dX11_motifIn_32 : decode cX11_motifIn 32 = .ok (.aload_n 0, 1) := by decide +kernel
theorem dX11_motifIn_33 : decode cX11_motifIn 33 = .ok (.aload_n 0, 1) := by decide +kernel
theorem dX11_motifIn_34 : decode cX11_motifIn 34 = .ok (.getfield 211, 3) := by decide +kernel
theorem dX11_motifIn_37 : decode cX11_motifIn 37 = .ok (.iload_n 1, 1) := by decide +kernel
theorem dX11_motifIn_38 : decode cX11_motifIn 38 = .ok (.invokevirtual 134, 3) := by decide +kernel
theorem dX11_motifIn_41 : decode cX11_motifIn 41 = .ok (.aload_n 0, 1) := by decide +kernel
theorem dX11_motifIn_42 : decode cX11_motifIn 42 = .ok (.iload_n 2, 1) := by decide +kernel
theorem dX11_motifIn_43 : decode cX11_motifIn 43 = .ok (.iload_n 1, 1) := by decide +kernel
theorem dX11_motifIn_44 : decode cX11_motifIn 44 = .ok (.invokevirtual 223, 3) := by decide +kernel
theorem dX11_motifIn_47 : decode cX11_motifIn 47 = .ok (.ireturn, 1) := by decide +kernel
theorem dX11_of_0 : decode cX11_of 0 = .ok (.aload_n 0, 1) := by decide +kernel
theorem dX11_of_1 : decode cX11_of 1 = .ok (.iconst 0, 1) := by decide +kernel
theorem dX11_of_2 : decode cX11_of 2 = .ok (.putfield 1, 3) := by decide +kernel
theorem dX11_of_5 : decode cX11_of 5 = .ok (.aload_n 0, 1) := by decide +kernel
theorem dX11_of_6 : decode cX11_of 6 = .ok (.iload_n 1, 1) := by decide +kernel
theorem dX11_of_7 : decode cX11_of 7 = .ok (.invokevirtual 113, 3) := by decide +kernel
theorem dX11_of_10 : decode cX11_of 10 = .ok (.ifCond .eq 15, 3) := by decide +kernel
theorem dX11_of_13 : decode cX11_of 13 = .ok (.iload_n 2, 1) := by decide +kernel
theorem dX11_of_14 : decode cX11_of 14 = .ok (.ifCond .lt 11, 3) := by decide +kernel
theorem dX11_of_17 : decode cX11_of 17 = .ok (.iload_n 2, 1) := by decide +kernel
theorem dX11_of_18 : decode cX11_of 18 = .ok (.aload_n 0, 1) := by decide +kernel
theorem dX11_of_19 : decode cX11_of 19 = .ok (.getfield 110, 3) := by decide +kernel
theorem dX11_of_22 : decode cX11_of 22 = .ok (.if_icmp .le 5, 3) := by decide +kernel
theorem dX11_of_25 : decode cX11_of 25 = .ok (.iconst (-1), 1) := by decide +kernel
theorem dX11_of_26 : decode cX11_of 26 = .ok (.ireturn, 1) := by decide +kernel
theorem dX11_of_27 : decode cX11_of 27 = .ok (.iload_n 2, 1) := by decide +kernel
theorem dX11_of_28 : decode cX11_of 28 = .ok (.ifCond .ne 12, 3) := by decide +kernel
theorem dX11_of_31 : decode cX11_of 31 = .ok (.aload_n 0, 1) := by decide +kernel
theorem dX11_of_32 : decode cX11_of 32 = .ok (.getfield 27, 3) := by decide +kernel
theorem dX11_of_35 : decode cX11_of 35 = .ok (.iload_n 1, 1) := by decide +kernel
theorem dX11_of_36 : decode cX11_of 36 = .ok (.iaload, 1) := by decide +kernel
theorem dX11_of_37 : decode cX11_of 37 = .ok (.goto 16, 3) := by decide +kernel
theorem dX11_of_40 : decode cX11_of 40 = .ok (.aload_n 0, 1) := by decide +kernel
theorem dX11_of_41 : decode cX11_of 41 = .ok (.getfield 23, 3) := by decide +kernel
theorem dX11_of_44 : decode cX11_of 44 = .ok (.bipush 7, 2) := by decide +kernel
theorem dX11_of_46 : decode cX11_of 46 = .ok (.iload_n 1, 1) := by decide +kernel
theorem dX11_of_47 : decode cX11_of 47 = .ok (.imul, 1) := by decide +kernel
theorem dX11_of_48 : decode cX11_of 48 = .ok (.iload_n 2, 1) := by decide +kernel
theorem dX11_of_49 : decode cX11_of 49 = .ok (.iadd, 1) := by decide +kernel
theorem dX11_of_50 : decode cX11_of 50 = .ok (.iconst 1, 1) := by decide +kernel
theorem dX11_of_51 : decode cX11_of 51 = .ok (.isub, 1) := by decide +kernel
theorem dX11_of_52 : decode cX11_of 52 = .ok (.baload, 1) := by decide +kernel
theorem dX11_of_53 : decode cX11_of 53 = .ok (.ireturn, 1) := by decide +kernel
theorem dX11_count_0 : decode cX11_count 0 = .ok (.aload_n 0, 1) := by decide +kernel
theorem dX11_count_1 : decode cX11_count 1 = .ok (.iconst 0, 1) := by decide +kernel
theorem dX11_count_2 : decode cX11_count 2 = .ok (.putfield 1, 3) := by decide +kernel
theorem dX11_count_5 : decode cX11_count 5 = .ok (.iload_n 1, 1) := by decide +kernel
theorem dX11_count_6 : decode cX11_count 6 = .ok (.bipush 10, 2) := by decide +kernel
theorem dX11_count_8 : decode cX11_count 8 = .ok (.if_icmp .lt 24, 3) := by decide +kernel
theorem dX11_count_11 : decode cX11_count 11 = .ok (.iload_n 1, 1) := by decide +kernel
theorem dX11_count_12 : decode cX11_count 12 = .ok (.bipush 10, 2) := by decide +kernel
theorem dX11_count_14 : decode cX11_count 14 = .ok (.aload_n 0, 1) := by decide +kernel
theorem dX11_count_15 : decode cX11_count 15 = .ok (.getfield 88, 3) := by decide +kernel
theorem dX11_count_18 : decode cX11_count 18 = .ok (.iadd, 1) := by decide +kernel
theorem dX11_count_19 : decode cX11_count 19 = .ok (.if_icmp .ge 13, 3) := by decide +kernel
theorem dX11_count_22 : decode cX11_count 22 = .ok (.aload_n 0, 1) := by decide +kernel
theorem dX11_count_23 : decode cX11_count 23 = .ok (.getfield 33, 3) := by decide +kernel
theorem dX11_count_26 : decode cX11_count 26 = .ok (.iload_n 1, 1) := by decide +kernel
theorem dX11_count_27 : decode cX11_count 27 = .ok (.bipush 10, 2) := by decide +kernel
theorem dX11_count_29 : decode cX11_count 29 = .ok (.isub, 1) := by decide +kernel
theorem dX11_count_30 : decode cX11_count 30 = .ok (.iaload, 1) := by decide +kernel
theorem dX11_count_31 : decode cX11_count 31 = .ok (.ireturn, 1) := by decide +kernel
theorem dX11_count_32 : decode cX11_count 32 = .ok (.iload_n 1, 1) := by decide +kernel
theorem dX11_count_33 : decode cX11_count 33 = .ok (.tableswitch 118 0 9 #[55, 60, 66, 72, 77, 82, 98, 103, 108, 113], 55) := by decide +kernel
theorem dX11_count_88 : decode cX11_count 88 = .ok (.aload_n 0, 1) := by decide +kernel
theorem dX11_count_89 : decode cX11_count 89 = .ok (.getfield 85, 3) := by decide +kernel
theorem dX11_count_92 : decode cX11_count 92 = .ok (.ireturn, 1) := by decide +kernel
theorem dX11_count_93 : decode cX11_count 93 = .ok (.aload_n 0, 1) := by decide +kernel
theorem dX11_count_94 : decode cX11_count 94 = .ok (.iconst 1, 1) := by decide +kernel
theorem dX11_count_95 : decode cX11_count 95 = .ok (.invokevirtual 141, 3) := by decide +kernel
theorem dX11_count_98 : decode cX11_count 98 = .ok (.ireturn, 1) := by decide +kernel
theorem dX11_count_99 : decode cX11_count 99 = .ok (.aload_n 0, 1) := by decide +kernel
theorem dX11_count_100 : decode cX11_count 100 = .ok (.iconst 2, 1) := by decide +kernel
theorem dX11_count_101 : decode cX11_count 101 = .ok (.invokevirtual 141, 3) := by decide +kernel
theorem dX11_count_104 : decode cX11_count 104 = .ok (.ireturn, 1) := by decide +kernel
theorem dX11_count_105 : decode cX11_count 105 = .ok (.aload_n 0, 1) := by decide +kernel
theorem dX11_count_106 : decode cX11_count 106 = .ok (.getfield 88, 3) := by decide +kernel
theorem dX11_count_109 : decode cX11_count 109 = .ok (.ireturn, 1) := by decide +kernel
theorem dX11_count_110 : decode cX11_count 110 = .ok (.aload_n 0, 1) := by decide +kernel
theorem dX11_count_111 : decode cX11_count 111 = .ok (.getfield 13, 3) := by decide +kernel
theorem dX11_count_114 : decode cX11_count 114 = .ok (.ireturn, 1) := by decide +kernel
theorem dX11_count_115 : decode cX11_count 115 = .ok (.aload_n 0, 1) := by decide +kernel
theorem dX11_count_116 : decode cX11_count 116 = .ok (.getfield 85, 3) := by decide +kernel
theorem dX11_count_119 : decode cX11_count 119 = .ok (.ifCond .ne 7, 3) := by decide +kernel
theorem dX11_count_122 : decode cX11_count 122 = .ok (.iconst (-1), 1) := by decide +kernel
theorem dX11_count_123 : decode cX11_count 123 = .ok (.goto 7, 3) := by decide +kernel
theorem dX11_count_126 : decode cX11_count 126 = .ok (.aload_n 0, 1) := by decide +kernel
theorem dX11_count_127 : decode cX11_count 127 = .ok (.getfield 110, 3) := by decide +kernel
theorem dX11_count_130 : decode cX11_count 130 = .ok (.ireturn, 1) := by decide +kernel
theorem dX11_count_131 : decode cX11_count 131 = .ok (.aload_n 0, 1) := by decide +kernel
theorem dX11_count_132 : decode cX11_count 132 = .ok (.getfield 94, 3) := by decide +kernel
theorem dX11_count_135 : decode cX11_count 135 = .ok (.ireturn, 1) := by decide +kernel
theorem dX11_count_136 : decode cX11_count 136 = .ok (.aload_n 0, 1) := by decide +kernel
theorem dX11_count_137 : decode cX11_count 137 = .ok (.getfield 97, 3) := by decide +kernel
theorem dX11_count_140 : decode cX11_count 140 = .ok (.ireturn, 1) := by decide +kernel
theorem dX11_count_141 : decode cX11_count 141 = .ok (.aload_n 0, 1) := by decide +kernel
theorem dX11_count_142 : decode cX11_count 142 = .ok (.getfield 100, 3) := by decide +kernel
theorem dX11_count_145 : decode cX11_count 145 = .ok (.ireturn, 1) := by decide +kernel
theorem dX11_count_146 : decode cX11_count 146 = .ok (.aload_n 0, 1) := by decide +kernel
theorem dX11_count_147 : decode cX11_count 147 = .ok (.getfield 20, 3) := by decide +kernel
theorem dX11_count_150 : decode cX11_count 150 = .ok (.ireturn, 1) := by decide +kernel
theorem dX11_count_151 : decode cX11_count 151 = .ok (.iconst (-1), 1) := by decide +kernel
theorem dX11_count_152 : decode cX11_count 152 = .ok (.ireturn, 1) := by decide +kernel
theorem dJ6_bitCount_0f7a4_0 : decode cJ6_bitCount_0f7a4 0 = .ok (.iload_n 0, 1) := by decide +kernel
theorem dJ6_bitCount_0f7a4_1 : decode cJ6_bitCount_0f7a4 1 = .ok (.iload_n 0, 1) := by decide +kernel
theorem dJ6_bitCount_0f7a4_2 : decode cJ6_bitCount_0f7a4 2 = .ok (.iconst 1, 1) := by decide +kernel
theorem dJ6_bitCount_0f7a4_3 : decode cJ6_bitCount_0f7a4 3 = .ok (.iushr, 1) := by decide +kernel
theorem dJ6_bitCount_0f7a4_4 : decode cJ6_bitCount_0f7a4 4 = .ok (.ldc_w 265, 3) := by decide +kernel
theorem dJ6_bitCount_0f7a4_7 : decode cJ6_bitCount_0f7a4 7 = .ok (.iand, 1) := by decide +kernel
theorem dJ6_bitCount_0f7a4_8 : decode cJ6_bitCount_0f7a4 8 = .ok (.isub, 1) := by decide +kernel
theorem dJ6_bitCount_0f7a4_9 : decode cJ6_bitCount_0f7a4 9 = .ok (.istore_n 0, 1) := by decide +kernel
theorem dJ6_bitCount_0f7a4_10 : decode cJ6_bitCount_0f7a4 10 = .ok (.iload_n 0, 1) := by decide +kernel
theorem dJ6_bitCount_0f7a4_11 : decode cJ6_bitCount_0f7a4 11 = .ok (.ldc_w 266, 3) := by decide +kernel
theorem dJ6_bitCount_0f7a4_14 : decode cJ6_bitCount_0f7a4 14 = .ok (.iand, 1) := by decide +kernel
theorem dJ6_bitCount_0f7a4_15 : decode cJ6_bitCount_0f7a4 15 = .ok (.iload_n 0, 1) := by decide +kernel
theorem dJ6_bitCount_0f7a4_16 : decode cJ6_bitCount_0f7a4 16 = .ok (.iconst 2, 1) := by decide +kernel
theorem dJ6_bitCount_0f7a4_17 : decode cJ6_bitCount_0f7a4 17 = .ok (.iushr, 1) := by decide +kernel
theorem dJ6_bitCount_0f7a4_18 : decode cJ6_bitCount_0f7a4 18 = .ok (.ldc_w 266, 3) := by decide +kernel
theorem dJ6_bitCount_0f7a4_21 : decode cJ6_bitCount_0f7a4 21 = .ok (.iand, 1) := by decide +kernel
theorem dJ6_bitCount_0f7a4_22 : decode cJ6_bitCount_0f7a4 22 = .ok (.iadd, 1) := by decide +kernel
theorem dJ6_bitCount_0f7a4_23 : decode cJ6_bitCount_0f7a4 23 = .ok (.istore_n 0, 1) := by decide +kernel
theorem dJ6_bitCount_0f7a4_24 : decode cJ6_bitCount_0f7a4 24 = .ok (.iload_n 0, 1) := by decide +kernel
theorem dJ6_bitCount_0f7a4_25 : decode cJ6_bitCount_0f7a4 25 = .ok (.iload_n 0, 1) := by decide +kernel
theorem dJ6_bitCount_0f7a4_26 : decode cJ6_bitCount_0f7a4 26 = .ok (.iconst 4, 1) := by decide +kernel
theorem dJ6_bitCount_0f7a4_27 : decode cJ6_bitCount_0f7a4 27 = .ok (.iushr, 1) := by decide +kernel
theorem dJ6_bitCount_0f7a4_28 : decode cJ6_bitCount_0f7a4 28 = .ok (.iadd, 1) := by decide +kernel
theorem dJ6_bitCount_0f7a4_29 : decode cJ6_bitCount_0f7a4 29 = .ok (.ldc_w 267, 3) := by decide +kernel
theorem dJ6_bitCount_0f7a4_32 : decode cJ6_bitCount_0f7a4 32 = .ok (.iand, 1) := by decide +kernel
theorem dJ6_bitCount_0f7a4_33 : decode cJ6_bitCount_0f7a4 33 = .ok (.istore_n 0, 1) := by decide +kernel
theorem dJ6_bitCount_0f7a4_34 : decode cJ6_bitCount_0f7a4 34 = .ok (.iload_n 0, 1) := by decide +kernel
theorem dJ6_bitCount_0f7a4_35 : decode cJ6_bitCount_0f7a4 35 = .ok (.iload_n 0, 1) := by decide +kernel
theorem dJ6_bitCount_0f7a4_36 : decode cJ6_bitCount_0f7a4 36 = .ok (.bipush 8, 2) := by decide +kernel
theorem dJ6_bitCount_0f7a4_38 : decode cJ6_bitCount_0f7a4 38 = .ok (.iushr, 1) := by decide +kernel
theorem dJ6_bitCount_0f7a4_39 : decode cJ6_bitCount_0f7a4 39 = .ok (.iadd, 1) := by decide +kernel
theorem dJ6_bitCount_0f7a4_40 : decode cJ6_bitCount_0f7a4 40 = .ok (.istore_n 0, 1) := by decide +kernel
theorem dJ6_bitCount_0f7a4_41 : decode cJ6_bitCount_0f7a4 41 = .ok (.iload_n 0, 1) := by decide +kernel
theorem dJ6_bitCount_0f7a4_42 : decode cJ6_bitCount_0f7a4 42 = .ok (.iload_n 0, 1) := by decide +kernel
theorem dJ6_bitCount_0f7a4_43 : decode cJ6_bitCount_0f7a4 43 = .ok (.bipush 16, 2) := by decide +kernel
theorem dJ6_bitCount_0f7a4_45 : decode cJ6_bitCount_0f7a4 45 = .ok (.iushr, 1) := by decide +kernel
theorem dJ6_bitCount_0f7a4_46 : decode cJ6_bitCount_0f7a4 46 = .ok (.iadd, 1) := by decide +kernel
theorem dJ6_bitCount_0f7a4_47 : decode cJ6_bitCount_0f7a4 47 = .ok (.istore_n 0, 1) := by decide +kernel
theorem dJ6_bitCount_0f7a4_48 : decode cJ6_bitCount_0f7a4 48 = .ok (.iload_n 0, 1) := by decide +kernel
theorem dJ6_bitCount_0f7a4_49 : decode cJ6_bitCount_0f7a4 49 = .ok (.bipush 63, 2) := by decide +kernel
theorem dJ6_bitCount_0f7a4_51 : decode cJ6_bitCount_0f7a4 51 = .ok (.iand, 1) := by decide +kernel
theorem dJ6_bitCount_0f7a4_52 : decode cJ6_bitCount_0f7a4 52 = .ok (.ireturn, 1) := by decide +kernel
theorem dJ9_max_7cf53_0 : decode cJ9_max_7cf53 0 = .ok (.iload_n 0, 1) := by decide +kernel
theorem dJ9_max_7cf53_1 : decode cJ9_max_7cf53 1 = .ok (.iload_n 1, 1) := by decide +kernel
theorem dJ9_max_7cf53_2 : decode cJ9_max_7cf53 2 = .ok (.if_icmp .lt 7, 3) := by decide +kernel
theorem dJ9_max_7cf53_5 : decode cJ9_max_7cf53 5 = .ok (.iload_n 0, 1) := by decide +kernel
theorem dJ9_max_7cf53_6 : decode cJ9_max_7cf53 6 = .ok (.goto 4, 3) := by decide +kernel
theorem dJ9_max_7cf53_9 : decode cJ9_max_7cf53 9 = .ok (.iload_n 1, 1) := by decide +kernel
theorem dJ9_max_7cf53_10 : decode cJ9_max_7cf53 10 = .ok (.ireturn, 1) := by decide +kernel
theorem dJ9_min_7cf53_0 : decode cJ9_min_7cf53 0 = .ok (.iload_n 0, 1) := by decide +kernel
theorem dJ9_min_7cf53_1 : decode cJ9_min_7cf53 1 = .ok (.iload_n 1, 1) := by decide +kernel
theorem dJ9_min_7cf53_2 : decode cJ9_min_7cf53 2 = .ok (.if_icmp .gt 7, 3) := by decide +kernel
theorem dJ9_min_7cf53_5 : decode cJ9_min_7cf53 5 = .ok (.iload_n 0, 1) := by decide +kernel
theorem dJ9_min_7cf53_6 : decode cJ9_min_7cf53 6 = .ok (.goto 4, 3) := by decide +kernel
theorem dJ9_min_7cf53_9 : decode cJ9_min_7cf53 9 = .ok (.iload_n 1, 1) := by decide +kernel
theorem dJ9_min_7cf53_10 : decode cJ9_min_7cf53 10 = .ok (.ireturn, 1) := by decide +kernel
theorem dL_motifIn_0 : decode cL_motifIn 0 = .ok (.aload_n 3, 1) := by decide +kernel
theorem dL_motifIn_1 : decode cL_motifIn 1 = .ok (.iconst 0, 1) := by decide +kernel
theorem dL_motifIn_2 : decode cL_motifIn 2 = .ok (.aload_n 0, 1) := by decide +kernel
theorem dL_motifIn_3 : decode cL_motifIn 3 = .ok (.iload_n 1, 1) := by decide +kernel
theorem dL_motifIn_4 : decode cL_motifIn 4 = .ok (.iload_n 2, 1) := by decide +kernel
theorem dL_motifIn_5 : decode cL_motifIn 5 = .ok (.invokevirtual 7, 3) := by decide +kernel
theorem dL_motifIn_8 : decode cL_motifIn 8 = .ok (.i2l, 1) := by decide +kernel
theorem dL_motifIn_9 : decode cL_motifIn 9 = .ok (.lastore, 1) := by decide +kernel
theorem dL_motifIn_10 : decode cL_motifIn 10 = .ok (.goto 7, 3) := by decide +kernel
theorem dL_motifIn_13 : decode cL_motifIn 13 = .ok (.astore 4, 2) := by decide +kernel
theorem dL_motifIn_15 : decode cL_motifIn 15 = .ok (.iconst 1, 1) := by decide +kernel
theorem dL_motifIn_16 : decode cL_motifIn 16 = .ok (.ireturn, 1) := by decide +kernel
theorem dL_motifIn_17 : decode cL_motifIn 17 = .ok (.iconst 0, 1) := by decide +kernel
theorem dL_motifIn_18 : decode cL_motifIn 18 = .ok (.ireturn, 1) := by decide +kernel
theorem dL_law_0 : decode cL_law 0 = .ok (.new 8, 3) := by decide +kernel
theorem dL_law_3 : decode cL_law 3 = .ok (.dup, 1) := by decide +kernel
theorem dL_law_4 : decode cL_law 4 = .ok (.invokespecial 15, 3) := by decide +kernel
theorem dL_law_7 : decode cL_law 7 = .ok (.astore_n 1, 1) := by decide +kernel
theorem dL_law_8 : decode cL_law 8 = .ok (.new 16, 3) := by decide +kernel
theorem dL_law_11 : decode cL_law 11 = .ok (.dup, 1) := by decide +kernel
theorem dL_law_12 : decode cL_law 12 = .ok (.invokespecial 18, 3) := by decide +kernel
theorem dL_law_15 : decode cL_law 15 = .ok (.astore_n 2, 1) := by decide +kernel
theorem dL_law_16 : decode cL_law 16 = .ok (.iconst 1, 1) := by decide +kernel
theorem dL_law_17 : decode cL_law 17 = .ok (.newarray .long, 2) := by decide +kernel
theorem dL_law_19 : decode cL_law 19 = .ok (.astore_n 3, 1) := by decide +kernel
theorem dL_law_20 : decode cL_law 20 = .ok (.iconst 0, 1) := by decide +kernel
theorem dL_law_21 : decode cL_law 21 = .ok (.istore 4, 2) := by decide +kernel
theorem dL_law_23 : decode cL_law 23 = .ok (.iload 4, 2) := by decide +kernel
theorem dL_law_25 : decode cL_law 25 = .ok (.aload_n 0, 1) := by decide +kernel
theorem dL_law_26 : decode cL_law 26 = .ok (.arraylength, 1) := by decide +kernel
theorem dL_law_27 : decode cL_law 27 = .ok (.bipush 6, 2) := by decide +kernel
theorem dL_law_29 : decode cL_law 29 = .ok (.isub, 1) := by decide +kernel
theorem dL_law_30 : decode cL_law 30 = .ok (.if_icmp .gt 1150, 3) := by decide +kernel
theorem dL_law_33 : decode cL_law 33 = .ok (.aload_n 0, 1) := by decide +kernel
theorem dL_law_34 : decode cL_law 34 = .ok (.iload 4, 2) := by decide +kernel
theorem dL_law_36 : decode cL_law 36 = .ok (.iaload, 1) := by decide +kernel
theorem dL_law_37 : decode cL_law 37 = .ok (.bipush 63, 2) := by decide +kernel
theorem dL_law_39 : decode cL_law 39 = .ok (.iand, 1) := by decide +kernel
theorem dL_law_40 : decode cL_law 40 = .ok (.tableswitch 1134 0 34 #[156, 181, 230, 255, 280, 305, 378, 403, 416, 429, 466, 503, 528, 541, 566, 591, 616, 641, 678, 703, 728, 753, 778, 815, 840, 853, 866, 891, 904, 929, 942, 967, 1004, 1072, 1109], 156) := by decide +kernel
theorem dL_law_196 : decode cL_law 196 = .ok (.aload_n 1, 1) := by decide +kernel
theorem dL_law_197 : decode cL_law 197 = .ok (.aload_n 0, 1) := by decide +kernel
theorem dL_law_198 : decode cL_law 198 = .ok (.iload 4, 2) := by decide +kernel
theorem dL_law_200 : decode cL_law 200 = .ok (.iconst 1, 1) := by decide +kernel
theorem dL_law_201 : decode cL_law 201 = .ok (.iadd, 1) := by decide +kernel
theorem dL_law_202 : decode cL_law 202 = .ok (.iaload, 1) := by decide +kernel
theorem dL_law_203 : decode cL_law 203 = .ok (.invokevirtual 19, 3) := by decide +kernel
theorem dL_law_206 : decode cL_law 206 = .ok (.aload_n 2, 1) := by decide +kernel
theorem dL_law_207 : decode cL_law 207 = .ok (.aload_n 0, 1) := by decide +kernel
theorem dL_law_208 : decode cL_law 208 = .ok (.iload 4, 2) := by decide +kernel
theorem dL_law_210 : decode cL_law 210 = .ok (.iconst 1, 1) := by decide +kernel
theorem dL_law_211 : decode cL_law 211 = .ok (.iadd, 1) := by decide +kernel
theorem dL_law_212 : decode cL_law 212 = .ok (.iaload, 1) := by decide +kernel
theorem dL_law_213 : decode cL_law 213 = .ok (.invokevirtual 23, 3) := by decide +kernel
theorem dL_law_216 : decode cL_law 216 = .ok (.if_icmp .eq 958, 3) := by decide +kernel
theorem dL_law_219 : decode cL_law 219 = .ok (.iconst 0, 1) := by decide +kernel
theorem dL_law_220 : decode cL_law 220 = .ok (.ireturn, 1) := by decide +kernel
theorem dL_law_221 : decode cL_law 221 = .ok (.aload_n 1, 1) := by decide +kernel
theorem dL_law_222 : decode cL_law 222 = .ok (.aload_n 0, 1) := by decide +kernel
theorem dL_law_223 : decode cL_law 223 = .ok (.iload 4, 2) := by decide +kernel
theorem dL_law_225 : decode cL_law 225 = .ok (.iconst 1, 1) := by decide +kernel
theorem dL_law_226 : decode cL_law 226 = .ok (.iadd, 1) := by decide +kernel
theorem dL_law_227 : decode cL_law 227 = .ok (.iaload, 1) := by decide +kernel
theorem dL_law_228 : decode cL_law 228 = .ok (.aload_n 0, 1) := by decide +kernel
theorem dL_law_229 : decode cL_law 229 = .ok (.iload 4, 2) := by decide +kernel
theorem dL_law_231 : decode cL_law 231 = .ok (.iconst 2, 1) := by decide +kernel
theorem dL_law_232 : decode cL_law 232 = .ok (.iadd, 1) := by decide +kernel
theorem dL_law_233 : decode cL_law 233 = .ok (.iaload, 1) := by decide +kernel
theorem dL_law_234 : decode cL_law 234 = .ok (.aload_n 0, 1) := by decide +kernel
theorem dL_law_235 : decode cL_law 235 = .ok (.iload 4, 2) := by decide +kernel
theorem dL_law_237 : decode cL_law 237 = .ok (.iconst 3, 1) := by decide +kernel
theorem dL_law_238 : decode cL_law 238 = .ok (.iadd, 1) := by decide +kernel
theorem dL_law_239 : decode cL_law 239 = .ok (.iaload, 1) := by decide +kernel
theorem dL_law_240 : decode cL_law 240 = .ok (.invokevirtual 24, 3) := by decide +kernel
theorem dL_law_243 : decode cL_law 243 = .ok (.aload_n 2, 1) := by decide +kernel
theorem dL_law_244 : decode cL_law 244 = .ok (.aload_n 0, 1) := by decide +kernel
theorem dL_law_245 : decode cL_law 245 = .ok (.iload 4, 2) := by decide +kernel
theorem dL_law_247 : decode cL_law 247 = .ok (.iconst 1, 1) := by decide +kernel
theorem dL_law_248 : decode cL_law 248 = .ok (.iadd, 1) := by decide +kernel
theorem dL_law_249 : decode cL_law 249 = .ok (.iaload, 1) := by decide +kernel
theorem dL_law_250 : decode cL_law 250 = .ok (.aload_n 0, 1) := by decide +kernel
theorem dL_law_251 : decode cL_law 251 = .ok (.iload 4, 2) := by decide +kernel
theorem dL_law_253 : decode cL_law 253 = .ok (.iconst 2, 1) := by decide +kernel
theorem dL_law_254 : decode cL_law 254 = .ok (.iadd, 1) := by decide +kernel
theorem dL_law_255 : decode cL_law 255 = .ok (.iaload, 1) := by decide +kernel
theorem dL_law_256 : decode cL_law 256 = .ok (.aload_n 0, 1) := by decide +kernel
theorem dL_law_257 : decode cL_law 257 = .ok (.iload 4, 2) := by decide +kernel
theorem dL_law_259 : decode cL_law 259 = .ok (.iconst 3, 1) := by decide +kernel
theorem dL_law_260 : decode cL_law 260 = .ok (.iadd, 1) := by decide +kernel
theorem dL_law_261 : decode cL_law 261 = .ok (.iaload, 1) := by decide +kernel
theorem dL_law_262 : decode cL_law 262 = .ok (.invokevirtual 28, 3) := by decide +kernel
theorem dL_law_265 : decode cL_law 265 = .ok (.if_icmp .eq 909, 3) := by decide +kernel
theorem dL_law_268 : decode cL_law 268 = .ok (.iconst 0, 1) := by decide +kernel
theorem dL_law_269 : decode cL_law 269 = .ok (.ireturn, 1) := by decide +kernel
theorem dL_law_270 : decode cL_law 270 = .ok (.aload_n 1, 1) := by decide +kernel
theorem dL_law_271 : decode cL_law 271 = .ok (.aload_n 0, 1) := by decide +kernel
theorem dL_law_272 : decode cL_law 272 = .ok (.iload 4, 2) := by decide +kernel
theorem dL_law_274 : decode cL_law 274 = .ok (.iconst 1, 1) := by decide +kernel
theorem dL_law_275 : decode cL_law 275 = .ok (.iadd, 1) := by decide +kernel
theorem dL_law_276 : decode cL_law 276 = .ok (.iaload, 1) := by decide +kernel
theorem dL_law_277 : decode cL_law 277 = .ok (.invokevirtual 29, 3) := by decide +kernel
theorem dL_law_280 : decode cL_law 280 = .ok (.aload_n 2, 1) := by decide +kernel
theorem dL_law_281 : decode cL_law 281 = .ok (.aload_n 0, 1) := by decide +kernel
theorem dL_law_282 : decode cL_law 282 = .ok (.iload 4, 2) := by decide +kernel
theorem dL_law_284 : decode cL_law 284 = .ok (.iconst 1, 1) := by decide +kernel
theorem dL_law_285 : decode cL_law 285 = .ok (.iadd, 1) := by decide +kernel
theorem dL_law_286 : decode cL_law 286 = .ok (.iaload, 1) := by decide +kernel
theorem dL_law_287 : decode cL_law 287 = .ok (.invokevirtual 32, 3) := by decide +kernel
theorem dL_law_290 : decode cL_law 290 = .ok (.if_icmp .eq 884, 3) := by decide +kernel
theorem dL_law_293 : decode cL_law 293 = .ok (.iconst 0, 1) := by decide +kernel
theorem dL_law_294 : decode cL_law 294 = .ok (.ireturn, 1) := by decide +kernel
theorem dL_law_295 : decode cL_law 295 = .ok (.aload_n 1, 1) := by decide +kernel
theorem dL_law_296 : decode cL_law 296 = .ok (.aload_n 0, 1) := by decide +kernel
theorem dL_law_297 : decode cL_law 297 = .ok (.iload 4, 2) := by decide +kernel
theorem dL_law_299 : decode cL_law 299 = .ok (.iconst 1, 1) := by decide +kernel
theorem dL_law_300 : decode cL_law 300 = .ok (.iadd, 1) := by decide +kernel
theorem dL_law_301 : decode cL_law 301 = .ok (.iaload, 1) := by decide +kernel
theorem dL_law_302 : decode cL_law 302 = .ok (.invokevirtual 33, 3) := by decide +kernel
theorem dL_law_305 : decode cL_law 305 = .ok (.aload_n 2, 1) := by decide +kernel
theorem dL_law_306 : decode cL_law 306 = .ok (.aload_n 0, 1) := by decide +kernel
theorem dL_law_307 : decode cL_law 307 = .ok (.iload 4, 2) := by decide +kernel
theorem dL_law_309 : decode cL_law 309 = .ok (.iconst 1, 1) := by decide +kernel
theorem dL_law_310 : decode cL_law 310 = .ok (.iadd, 1) := by decide +kernel
theorem dL_law_311 : decode cL_law 311 = .ok (.iaload, 1) := by decide +kernel
theorem dL_law_312 : decode cL_law 312 = .ok (.invokevirtual 36, 3) := by decide +kernel
theorem dL_law_315 : decode cL_law 315 = .ok (.if_icmp .eq 859, 3) := by decide +kernel
theorem dL_law_318 : decode cL_law 318 = .ok (.iconst 0, 1) := by decide +kernel
theorem dL_law_319 : decode cL_law 319 = .ok (.ireturn, 1) := by decide +kernel
theorem dL_law_320 : decode cL_law 320 = .ok (.aload_n 1, 1) := by decide +kernel
theorem dL_law_321 : decode cL_law 321 = .ok (.aload_n 0, 1) := by decide +kernel
theorem dL_law_322 : decode cL_law 322 = .ok (.iload 4, 2) := by decide +kernel
theorem dL_law_324 : decode cL_law 324 = .ok (.iconst 1, 1) := by decide +kernel
theorem dL_law_325 : decode cL_law 325 = .ok (.iadd, 1) := by decide +kernel
theorem dL_law_326 : decode cL_law 326 = .ok (.iaload, 1) := by decide +kernel
theorem dL_law_327 : decode cL_law 327 = .ok (.invokevirtual 37, 3) := by decide +kernel
theorem dL_law_330 : decode cL_law 330 = .ok (.aload_n 2, 1) := by decide +kernel
theorem dL_law_331 : decode cL_law 331 = .ok (.aload_n 0, 1) := by decide +kernel
theorem dL_law_332 : decode cL_law 332 = .ok (.iload 4, 2) := by decide +kernel
theorem dL_law_334 : decode cL_law 334 = .ok (.iconst 1, 1) := by decide +kernel
theorem dL_law_335 : decode cL_law 335 = .ok (.iadd, 1) := by decide +kernel
theorem dL_law_336 : decode cL_law 336 = .ok (.iaload, 1) := by decide +kernel
theorem dL_law_337 : decode cL_law 337 = .ok (.invokevirtual 40, 3) := by decide +kernel
theorem dL_law_340 : decode cL_law 340 = .ok (.if_icmp .eq 834, 3) := by decide +kernel
theorem dL_law_343 : decode cL_law 343 = .ok (.iconst 0, 1) := by decide +kernel
theorem dL_law_344 : decode cL_law 344 = .ok (.ireturn, 1) := by decide +kernel
theorem dL_law_345 : decode cL_law 345 = .ok (.aload_n 1, 1) := by decide +kernel
theorem dL_law_346 : decode cL_law 346 = .ok (.aload_n 0, 1) := by decide +kernel
theorem dL_law_347 : decode cL_law 347 = .ok (.iload 4, 2) := by decide +kernel
theorem dL_law_349 : decode cL_law 349 = .ok (.iconst 1, 1) := by decide +kernel
theorem dL_law_350 : decode cL_law 350 = .ok (.iadd, 1) := by decide +kernel
theorem dL_law_351 : decode cL_law 351 = .ok (.iaload, 1) := by decide +kernel
theorem dL_law_352 : decode cL_law 352 = .ok (.aload_n 0, 1) := by decide +kernel
theorem dL_law_353 : decode cL_law 353 = .ok (.iload 4, 2) := by decide +kernel
theorem dL_law_355 : decode cL_law 355 = .ok (.iconst 2, 1) := by decide +kernel
theorem dL_law_356 : decode cL_law 356 = .ok (.iadd, 1) := by decide +kernel
theorem dL_law_357 : decode cL_law 357 = .ok (.iaload, 1) := by decide +kernel
theorem dL_law_358 : decode cL_law 358 = .ok (.aload_n 0, 1) := by decide +kernel
theorem dL_law_359 : decode cL_law 359 = .ok (.iload 4, 2) := by decide +kernel
theorem dL_law_361 : decode cL_law 361 = .ok (.iconst 3, 1) := by decide +kernel
theorem dL_law_362 : decode cL_law 362 = .ok (.iadd, 1) := by decide +kernel
theorem dL_law_363 : decode cL_law 363 = .ok (.iaload, 1) := by decide +kernel
theorem dL_law_364 : decode cL_law 364 = .ok (.aload_n 0, 1) := by decide +kernel
theorem dL_law_365 : decode cL_law 365 = .ok (.iload 4, 2) := by decide +kernel
theorem dL_law_367 : decode cL_law 367 = .ok (.iconst 4, 1) := by decide +kernel
theorem dL_law_368 : decode cL_law 368 = .ok (.iadd, 1) := by decide +kernel
theorem dL_law_369 : decode cL_law 369 = .ok (.iaload, 1) := by decide +kernel
theorem dL_law_370 : decode cL_law 370 = .ok (.aload_n 0, 1) := by decide +kernel
theorem dL_law_371 : decode cL_law 371 = .ok (.iload 4, 2) := by decide +kernel
theorem dL_law_373 : decode cL_law 373 = .ok (.iconst 5, 1) := by decide +kernel
theorem dL_law_374 : decode cL_law 374 = .ok (.iadd, 1) := by decide +kernel
theorem dL_law_375 : decode cL_law 375 = .ok (.iaload, 1) := by decide +kernel
theorem dL_law_376 : decode cL_law 376 = .ok (.invokevirtual 41, 3) := by decide +kernel
theorem dL_law_379 : decode cL_law 379 = .ok (.aload_n 2, 1) := by decide +kernel
theorem dL_law_380 : decode cL_law 380 = .ok (.aload_n 0, 1) := by decide +kernel
theorem dL_law_381 : decode cL_law 381 = .ok (.iload 4, 2) := by decide +kernel
theorem dL_law_383 : decode cL_law 383 = .ok (.iconst 1, 1) := by decide +kernel
theorem dL_law_384 : decode cL_law 384 = .ok (.iadd, 1) := by decide +kernel
theorem dL_law_385 : decode cL_law 385 = .ok (.iaload, 1) := by decide +kernel
theorem dL_law_386 : decode cL_law 386 = .ok (.aload_n 0, 1) := by decide +kernel
theorem dL_law_387 : decode cL_law 387 = .ok (.iload 4, 2) := by decide +kernel
theorem dL_law_389 : decode cL_law 389 = .ok (.iconst 2, 1) := by decide +kernel
theorem dL_law_390 : decode cL_law 390 = .ok (.iadd, 1) := by decide +kernel
theorem dL_law_391 : decode cL_law 391 = .ok (.iaload, 1) := by decide +kernel
theorem dL_law_392 : decode cL_law 392 = .ok (.aload_n 0, 1) := by decide +kernel
theorem dL_law_393 : decode cL_law 393 = .ok (.iload 4, 2) := by decide +kernel
theorem dL_law_395 : decode cL_law 395 = .ok (.iconst 3, 1) := by decide +kernel
theorem dL_law_396 : decode cL_law 396 = .ok (.iadd, 1) := by decide +kernel
theorem dL_law_397 : decode cL_law 397 = .ok (.iaload, 1) := by decide +kernel
theorem dL_law_398 : decode cL_law 398 = .ok (.aload_n 0, 1) := by decide +kernel
theorem dL_law_399 : decode cL_law 399 = .ok (.iload 4, 2) := by decide +kernel
theorem dL_law_401 : decode cL_law 401 = .ok (.iconst 4, 1) := by decide +kernel
theorem dL_law_402 : decode cL_law 402 = .ok (.iadd, 1) := by decide +kernel
theorem dL_law_403 : decode cL_law 403 = .ok (.iaload, 1) := by decide +kernel
theorem dL_law_404 : decode cL_law 404 = .ok (.aload_n 0, 1) := by decide +kernel
theorem dL_law_405 : decode cL_law 405 = .ok (.iload 4, 2) := by decide +kernel
theorem dL_law_407 : decode cL_law 407 = .ok (.iconst 5, 1) := by decide +kernel
theorem dL_law_408 : decode cL_law 408 = .ok (.iadd, 1) := by decide +kernel
theorem dL_law_409 : decode cL_law 409 = .ok (.iaload, 1) := by decide +kernel
theorem dL_law_410 : decode cL_law 410 = .ok (.invokevirtual 45, 3) := by decide +kernel
theorem dL_law_413 : decode cL_law 413 = .ok (.if_icmp .eq 761, 3) := by decide +kernel
theorem dL_law_416 : decode cL_law 416 = .ok (.iconst 0, 1) := by decide +kernel
theorem dL_law_417 : decode cL_law 417 = .ok (.ireturn, 1) := by decide +kernel
theorem dL_law_418 : decode cL_law 418 = .ok (.aload_n 1, 1) := by decide +kernel
theorem dL_law_419 : decode cL_law 419 = .ok (.aload_n 0, 1) := by decide +kernel
theorem dL_law_420 : decode cL_law 420 = .ok (.iload 4, 2) := by decide +kernel
theorem dL_law_422 : decode cL_law 422 = .ok (.iconst 1, 1) := by decide +kernel
theorem dL_law_423 : decode cL_law 423 = .ok (.iadd, 1) := by decide +kernel
theorem dL_law_424 : decode cL_law 424 = .ok (.iaload, 1) := by decide +kernel
theorem dL_law_425 : decode cL_law 425 = .ok (.invokevirtual 46, 3) := by decide +kernel
theorem dL_law_428 : decode cL_law 428 = .ok (.aload_n 2, 1) := by decide +kernel
theorem dL_law_429 : decode cL_law 429 = .ok (.aload_n 0, 1) := by decide +kernel
theorem dL_law_430 : decode cL_law 430 = .ok (.iload 4, 2) := by decide +kernel
theorem dL_law_432 : decode cL_law 432 = .ok (.iconst 1, 1) := by decide +kernel
theorem dL_law_433 : decode cL_law 433 = .ok (.iadd, 1) := by decide +kernel
theorem dL_law_434 : decode cL_law 434 = .ok (.iaload, 1) := by decide +kernel
theorem dL_law_435 : decode cL_law 435 = .ok (.invokevirtual 50, 3) := by decide +kernel
theorem dL_law_438 : decode cL_law 438 = .ok (.if_icmp .eq 736, 3) := by decide +kernel
theorem dL_law_441 : decode cL_law 441 = .ok (.iconst 0, 1) := by decide +kernel
theorem dL_law_442 : decode cL_law 442 = .ok (.ireturn, 1) := by decide +kernel
theorem dL_law_443 : decode cL_law 443 = .ok (.aload_n 1, 1) := by decide +kernel
theorem dL_law_444 : decode cL_law 444 = .ok (.invokevirtual 51, 3) := by decide +kernel
theorem dL_law_447 : decode cL_law 447 = .ok (.aload_n 2, 1) := by decide +kernel
theorem dL_law_448 : decode cL_law 448 = .ok (.invokevirtual 55, 3) := by decide +kernel
theorem dL_law_451 : decode cL_law 451 = .ok (.if_icmp .eq 723, 3) := by decide +kernel
theorem dL_law_454 : decode cL_law 454 = .ok (.iconst 0, 1) := by decide +kernel
theorem dL_law_455 : decode cL_law 455 = .ok (.ireturn, 1) := by decide +kernel
theorem dL_law_456 : decode cL_law 456 = .ok (.aload_n 1, 1) := by decide +kernel
theorem dL_law_457 : decode cL_law 457 = .ok (.invokevirtual 56, 3) := by decide +kernel
theorem dL_law_460 : decode cL_law 460 = .ok (.aload_n 2, 1) := by decide +kernel
theorem dL_law_461 : decode cL_law 461 = .ok (.invokevirtual 59, 3) := by decide +kernel
theorem dL_law_464 : decode cL_law 464 = .ok (.if_icmp .eq 710, 3) := by decide +kernel
theorem dL_law_467 : decode cL_law 467 = .ok (.iconst 0, 1) := by decide +kernel
theorem dL_law_468 : decode cL_law 468 = .ok (.ireturn, 1) := by decide +kernel
theorem dL_law_469 : decode cL_law 469 = .ok (.aload_n 1, 1) := by decide +kernel
theorem dL_law_470 : decode cL_law 470 = .ok (.aload_n 0, 1) := by decide +kernel
theorem dL_law_471 : decode cL_law 471 = .ok (.iload 4, 2) := by decide +kernel
theorem dL_law_473 : decode cL_law 473 = .ok (.iconst 1, 1) := by decide +kernel
theorem dL_law_474 : decode cL_law 474 = .ok (.iadd, 1) := by decide +kernel
theorem dL_law_475 : decode cL_law 475 = .ok (.iaload, 1) := by decide +kernel
theorem dL_law_476 : decode cL_law 476 = .ok (.aload_n 0, 1) := by decide +kernel
theorem dL_law_477 : decode cL_law 477 = .ok (.iload 4, 2) := by decide +kernel
theorem dL_law_479 : decode cL_law 479 = .ok (.iconst 2, 1) := by decide +kernel
theorem dL_law_480 : decode cL_law 480 = .ok (.iadd, 1) := by decide +kernel
theorem dL_law_481 : decode cL_law 481 = .ok (.iaload, 1) := by decide +kernel
theorem dL_law_482 : decode cL_law 482 = .ok (.invokevirtual 60, 3) := by decide +kernel
theorem dL_law_485 : decode cL_law 485 = .ok (.aload_n 2, 1) := by decide +kernel
theorem dL_law_486 : decode cL_law 486 = .ok (.aload_n 0, 1) := by decide +kernel
theorem dL_law_487 : decode cL_law 487 = .ok (.iload 4, 2) := by decide +kernel
theorem dL_law_489 : decode cL_law 489 = .ok (.iconst 1, 1) := by decide +kernel
theorem dL_law_490 : decode cL_law 490 = .ok (.iadd, 1) := by decide +kernel
theorem dL_law_491 : decode cL_law 491 = .ok (.iaload, 1) := by decide +kernel
theorem dL_law_492 : decode cL_law 492 = .ok (.aload_n 0, 1) := by decide +kernel
theorem dL_law_493 : decode cL_law 493 = .ok (.iload 4, 2) := by decide +kernel
theorem dL_law_495 : decode cL_law 495 = .ok (.iconst 2, 1) := by decide +kernel
theorem dL_law_496 : decode cL_law 496 = .ok (.iadd, 1) := by decide +kernel
theorem dL_law_497 : decode cL_law 497 = .ok (.iaload, 1) := by decide +kernel
theorem dL_law_498 : decode cL_law 498 = .ok (.invokevirtual 64, 3) := by decide +kernel
theorem dL_law_501 : decode cL_law 501 = .ok (.if_icmp .eq 673, 3) := by decide +kernel
theorem dL_law_504 : decode cL_law 504 = .ok (.iconst 0, 1) := by decide +kernel
theorem dL_law_505 : decode cL_law 505 = .ok (.ireturn, 1) := by decide +kernel
theorem dL_law_506 : decode cL_law 506 = .ok (.aload_n 1, 1) := by decide +kernel
theorem dL_law_507 : decode cL_law 507 = .ok (.aload_n 0, 1) := by decide +kernel
theorem dL_law_508 : decode cL_law 508 = .ok (.iload 4, 2) := by decide +kernel
theorem dL_law_510 : decode cL_law 510 = .ok (.iconst 1, 1) := by decide +kernel
theorem dL_law_511 : decode cL_law 511 = .ok (.iadd, 1) := by decide +kernel
theorem dL_law_512 : decode cL_law 512 = .ok (.iaload, 1) := by decide +kernel
theorem dL_law_513 : decode cL_law 513 = .ok (.aload_n 0, 1) := by decide +kernel
theorem dL_law_514 : decode cL_law 514 = .ok (.iload 4, 2) := by decide +kernel
theorem dL_law_516 : decode cL_law 516 = .ok (.iconst 2, 1) := by decide +kernel
theorem dL_law_517 : decode cL_law 517 = .ok (.iadd, 1) := by decide +kernel
theorem dL_law_518 : decode cL_law 518 = .ok (.iaload, 1) := by decide +kernel
theorem dL_law_519 : decode cL_law 519 = .ok (.invokevirtual 65, 3) := by decide +kernel
theorem dL_law_522 : decode cL_law 522 = .ok (.aload_n 2, 1) := by decide +kernel
theorem dL_law_523 : decode cL_law 523 = .ok (.aload_n 0, 1) := by decide +kernel
theorem dL_law_524 : decode cL_law 524 = .ok (.iload 4, 2) := by decide +kernel
theorem dL_law_526 : decode cL_law 526 = .ok (.iconst 1, 1) := by decide +kernel
theorem dL_law_527 : decode cL_law 527 = .ok (.iadd, 1) := by decide +kernel
theorem dL_law_528 : decode cL_law 528 = .ok (.iaload, 1) := by decide +kernel
theorem dL_law_529 : decode cL_law 529 = .ok (.aload_n 0, 1) := by decide +kernel
theorem dL_law_530 : decode cL_law 530 = .ok (.iload 4, 2) := by decide +kernel
theorem dL_law_532 : decode cL_law 532 = .ok (.iconst 2, 1) := by decide +kernel
theorem dL_law_533 : decode cL_law 533 = .ok (.iadd, 1) := by decide +kernel
theorem dL_law_534 : decode cL_law 534 = .ok (.iaload, 1) := by decide +kernel
theorem dL_law_535 : decode cL_law 535 = .ok (.invokevirtual 68, 3) := by decide +kernel
theorem dL_law_538 : decode cL_law 538 = .ok (.if_icmp .eq 636, 3) := by decide +kernel
theorem dL_law_541 : decode cL_law 541 = .ok (.iconst 0, 1) := by decide +kernel
theorem dL_law_542 : decode cL_law 542 = .ok (.ireturn, 1) := by decide +kernel
theorem dL_law_543 : decode cL_law 543 = .ok (.aload_n 1, 1) := by decide +kernel
theorem dL_law_544 : decode cL_law 544 = .ok (.aload_n 0, 1) := by decide +kernel
theorem dL_law_545 : decode cL_law 545 = .ok (.iload 4, 2) := by decide +kernel
theorem dL_law_547 : decode cL_law 547 = .ok (.iconst 1, 1) := by decide +kernel
theorem dL_law_548 : decode cL_law 548 = .ok (.iadd, 1) := by decide +kernel
theorem dL_law_549 : decode cL_law 549 = .ok (.iaload, 1) := by decide +kernel
theorem dL_law_550 : decode cL_law 550 = .ok (.invokevirtual 69, 3) := by decide +kernel
theorem dL_law_553 : decode cL_law 553 = .ok (.aload_n 2, 1) := by decide +kernel
theorem dL_law_554 : decode cL_law 554 = .ok (.aload_n 0, 1) := by decide +kernel
theorem dL_law_555 : decode cL_law 555 = .ok (.iload 4, 2) := by decide +kernel
theorem dL_law_557 : decode cL_law 557 = .ok (.iconst 1, 1) := by decide +kernel
theorem dL_law_558 : decode cL_law 558 = .ok (.iadd, 1) := by decide +kernel
theorem dL_law_559 : decode cL_law 559 = .ok (.iaload, 1) := by decide +kernel
theorem dL_law_560 : decode cL_law 560 = .ok (.invokevirtual 72, 3) := by decide +kernel
theorem dL_law_563 : decode cL_law 563 = .ok (.if_icmp .eq 611, 3) := by decide +kernel
theorem dL_law_566 : decode cL_law 566 = .ok (.iconst 0, 1) := by decide +kernel
theorem dL_law_567 : decode cL_law 567 = .ok (.ireturn, 1) := by decide +kernel
theorem dL_law_568 : decode cL_law 568 = .ok (.aload_n 1, 1) := by decide +kernel
theorem dL_law_569 : decode cL_law 569 = .ok (.invokevirtual 73, 3) := by decide +kernel
theorem dL_law_572 : decode cL_law 572 = .ok (.aload_n 2, 1) := by decide +kernel
theorem dL_law_573 : decode cL_law 573 = .ok (.invokevirtual 76, 3) := by decide +kernel
theorem dL_law_576 : decode cL_law 576 = .ok (.if_icmp .eq 598, 3) := by decide +kernel
theorem dL_law_579 : decode cL_law 579 = .ok (.iconst 0, 1) := by decide +kernel
theorem dL_law_580 : decode cL_law 580 = .ok (.ireturn, 1) := by decide +kernel
theorem dL_law_581 : decode cL_law 581 = .ok (.aload_n 1, 1) := by decide +kernel
theorem dL_law_582 : decode cL_law 582 = .ok (.aload_n 0, 1) := by decide +kernel
theorem dL_law_583 : decode cL_law 583 = .ok (.iload 4, 2) := by decide +kernel
theorem dL_law_585 : decode cL_law 585 = .ok (.iconst 1, 1) := by decide +kernel
theorem dL_law_586 : decode cL_law 586 = .ok (.iadd, 1) := by decide +kernel
theorem dL_law_587 : decode cL_law 587 = .ok (.iaload, 1) := by decide +kernel
theorem dL_law_588 : decode cL_law 588 = .ok (.invokevirtual 77, 3) := by decide +kernel
theorem dL_law_591 : decode cL_law 591 = .ok (.aload_n 2, 1) := by decide +kernel
theorem dL_law_592 : decode cL_law 592 = .ok (.aload_n 0, 1) := by decide +kernel
theorem dL_law_593 : decode cL_law 593 = .ok (.iload 4, 2) := by decide +kernel
theorem dL_law_595 : decode cL_law 595 = .ok (.iconst 1, 1) := by decide +kernel
theorem dL_law_596 : decode cL_law 596 = .ok (.iadd, 1) := by decide +kernel
theorem dL_law_597 : decode cL_law 597 = .ok (.iaload, 1) := by decide +kernel
theorem dL_law_598 : decode cL_law 598 = .ok (.invokevirtual 80, 3) := by decide +kernel
theorem dL_law_601 : decode cL_law 601 = .ok (.if_icmp .eq 573, 3) := by decide +kernel
theorem dL_law_604 : decode cL_law 604 = .ok (.iconst 0, 1) := by decide +kernel
theorem dL_law_605 : decode cL_law 605 = .ok (.ireturn, 1) := by decide +kernel
theorem dL_law_606 : decode cL_law 606 = .ok (.aload_n 1, 1) := by decide +kernel
theorem dL_law_607 : decode cL_law 607 = .ok (.aload_n 0, 1) := by decide +kernel
theorem dL_law_608 : decode cL_law 608 = .ok (.iload 4, 2) := by decide +kernel
theorem dL_law_610 : decode cL_law 610 = .ok (.iconst 1, 1) := by decide +kernel
theorem dL_law_611 : decode cL_law 611 = .ok (.iadd, 1) := by decide +kernel
theorem dL_law_612 : decode cL_law 612 = .ok (.iaload, 1) := by decide +kernel
theorem dL_law_613 : decode cL_law 613 = .ok (.invokevirtual 81, 3) := by decide +kernel
theorem dL_law_616 : decode cL_law 616 = .ok (.aload_n 2, 1) := by decide +kernel
theorem dL_law_617 : decode cL_law 617 = .ok (.aload_n 0, 1) := by decide +kernel
theorem dL_law_618 : decode cL_law 618 = .ok (.iload 4, 2) := by decide +kernel
theorem dL_law_620 : decode cL_law 620 = .ok (.iconst 1, 1) := by decide +kernel
theorem dL_law_621 : decode cL_law 621 = .ok (.iadd, 1) := by decide +kernel
theorem dL_law_622 : decode cL_law 622 = .ok (.iaload, 1) := by decide +kernel
