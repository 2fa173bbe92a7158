theorem dX0_init_0 : decode cX0_init 0 = .ok (.aload_n 0, 1) := by decide +kernel
theorem dX0_init_1 : decode cX0_init 1 = .ok (.invokespecial 3, 3) := by decide +kernel
theorem dX0_init_4 : decode cX0_init 4 = .ok (.aload_n 0, 1) := by decide +kernel
theorem dX0_init_5 : decode cX0_init 5 = .ok (.iconst 0, 1) := by decide +kernel
theorem dX0_init_6 : decode cX0_init 6 = .ok (.putfield 9, 3) := by decide +kernel
theorem dX0_init_9 : decode cX0_init 9 = .ok (.aload_n 0, 1) := by decide +kernel
theorem dX0_init_10 : decode cX0_init 10 = .ok (.bipush 8, 2) := by decide +kernel
theorem dX0_init_12 : decode cX0_init 12 = .ok (.newarray .int, 2) := by decide +kernel
theorem dX0_init_14 : decode cX0_init 14 = .ok (.putfield 15, 3) := by decide +kernel
theorem dX0_init_17 : decode cX0_init 17 = .ok (.aload_n 0, 1) := by decide +kernel
theorem dX0_init_18 : decode cX0_init 18 = .ok (.bipush 7, 2) := by decide +kernel
theorem dX0_init_20 : decode cX0_init 20 = .ok (.newarray .int, 2) := by decide +kernel
theorem dX0_init_22 : decode cX0_init 22 = .ok (.putfield 19, 3) := by decide +kernel
theorem dX0_init_25 : decode cX0_init 25 = .ok (.aload_n 0, 1) := by decide +kernel
theorem dX0_init_26 : decode cX0_init 26 = .ok (.aload_n 1, 1) := by decide +kernel
theorem dX0_init_27 : decode cX0_init 27 = .ok (.putfield 22, 3) := by decide +kernel
theorem dX0_init_30 : decode cX0_init 30 = .ok (.aload_n 0, 1) := by decide +kernel
theorem dX0_init_31 : decode cX0_init 31 = .ok (.aload_n 2, 1) := by decide +kernel
theorem dX0_init_32 : decode cX0_init 32 = .ok (.putfield 26, 3) := by decide +kernel
theorem dX0_init_35 : decode cX0_init 35 = .ok (.aload_n 0, 1) := by decide +kernel
theorem dX0_init_36 : decode cX0_init 36 = .ok (.new 30, 3) := by decide +kernel
theorem dX0_init_39 : decode cX0_init 39 = .ok (.dup, 1) := by decide +kernel
theorem dX0_init_40 : decode cX0_init 40 = .ok (.aload_n 1, 1) := by decide +kernel
theorem dX0_init_41 : decode cX0_init 41 = .ok (.bipush 7, 2) := by decide +kernel
theorem dX0_init_43 : decode cX0_init 43 = .ok (.bipush 8, 2) := by decide +kernel
theorem dX0_init_45 : decode cX0_init 45 = .ok (.invokespecial 32, 3) := by decide +kernel
theorem dX0_init_48 : decode cX0_init 48 = .ok (.putfield 35, 3) := by decide +kernel
theorem dX0_init_51 : decode cX0_init 51 = .ok (.return_, 1) := by decide +kernel
theorem dX0_begin_0 : decode cX0_begin 0 = .ok (.aload_n 0, 1) := by decide +kernel
theorem dX0_begin_1 : decode cX0_begin 1 = .ok (.getfield 35, 3) := by decide +kernel
theorem dX0_begin_4 : decode cX0_begin 4 = .ok (.aload_n 0, 1) := by decide +kernel
theorem dX0_begin_5 : decode cX0_begin 5 = .ok (.getfield 26, 3) := by decide +kernel
theorem dX0_begin_8 : decode cX0_begin 8 = .ok (.getfield 39, 3) := by decide +kernel
theorem dX0_begin_11 : decode cX0_begin 11 = .ok (.invokevirtual 44, 3) := by decide +kernel
theorem dX0_begin_14 : decode cX0_begin 14 = .ok (.aload_n 0, 1) := by decide +kernel
theorem dX0_begin_15 : decode cX0_begin 15 = .ok (.iconst 1, 1) := by decide +kernel
theorem dX0_begin_16 : decode cX0_begin 16 = .ok (.invokevirtual 48, 3) := by decide +kernel
theorem dX0_begin_19 : decode cX0_begin 19 = .ok (.aload_n 0, 1) := by decide +kernel
theorem dX0_begin_20 : decode cX0_begin 20 = .ok (.aload_n 0, 1) := by decide +kernel
theorem dX0_begin_21 : decode cX0_begin 21 = .ok (.getfield 35, 3) := by decide +kernel
theorem dX0_begin_24 : decode cX0_begin 24 = .ok (.getfield 51, 3) := by decide +kernel
theorem dX0_begin_27 : decode cX0_begin 27 = .ok (.putfield 9, 3) := by decide +kernel
theorem dX0_begin_30 : decode cX0_begin 30 = .ok (.aload_n 0, 1) := by decide +kernel
theorem dX0_begin_31 : decode cX0_begin 31 = .ok (.getfield 22, 3) := by decide +kernel
theorem dX0_begin_34 : decode cX0_begin 34 = .ok (.getfield 54, 3) := by decide +kernel
theorem dX0_begin_37 : decode cX0_begin 37 = .ok (.ifCond .le 8, 3) := by decide +kernel
theorem dX0_begin_40 : decode cX0_begin 40 = .ok (.aload_n 0, 1) := by decide +kernel
theorem dX0_begin_41 : decode cX0_begin 41 = .ok (.iconst 2, 1) := by decide +kernel
theorem dX0_begin_42 : decode cX0_begin 42 = .ok (.invokevirtual 48, 3) := by decide +kernel
theorem dX0_begin_45 : decode cX0_begin 45 = .ok (.aload_n 0, 1) := by decide +kernel
theorem dX0_begin_46 : decode cX0_begin 46 = .ok (.getfield 22, 3) := by decide +kernel
theorem dX0_begin_49 : decode cX0_begin 49 = .ok (.aload_n 0, 1) := by decide +kernel
theorem dX0_begin_50 : decode cX0_begin 50 = .ok (.getfield 26, 3) := by decide +kernel
theorem dX0_begin_53 : decode cX0_begin 53 = .ok (.getfield 39, 3) := by decide +kernel
theorem dX0_begin_56 : decode cX0_begin 56 = .ok (.invokevirtual 59, 3) := by decide +kernel
theorem dX0_begin_59 : decode cX0_begin 59 = .ok (.ireturn, 1) := by decide +kernel
theorem dX0_aimAtAll_0 : decode cX0_aimAtAll 0 = .ok (.iconst 0, 1) := by decide +kernel
theorem dX0_aimAtAll_1 : decode cX0_aimAtAll 1 = .ok (.istore_n 2, 1) := by decide +kernel
theorem dX0_aimAtAll_2 : decode cX0_aimAtAll 2 = .ok (.iload_n 2, 1) := by decide +kernel
theorem dX0_aimAtAll_3 : decode cX0_aimAtAll 3 = .ok (.aload_n 0, 1) := by decide +kernel
theorem dX0_aimAtAll_4 : decode cX0_aimAtAll 4 = .ok (.getfield 26, 3) := by decide +kernel
theorem dX0_aimAtAll_7 : decode cX0_aimAtAll 7 = .ok (.getfield 63, 3) := by decide +kernel
theorem dX0_aimAtAll_10 : decode cX0_aimAtAll 10 = .ok (.if_icmp .ge 59, 3) := by decide +kernel
theorem dX0_aimAtAll_13 : decode cX0_aimAtAll 13 = .ok (.aload_n 0, 1) := by decide +kernel
theorem dX0_aimAtAll_14 : decode cX0_aimAtAll 14 = .ok (.getfield 26, 3) := by decide +kernel
theorem dX0_aimAtAll_17 : decode cX0_aimAtAll 17 = .ok (.getfield 66, 3) := by decide +kernel
theorem dX0_aimAtAll_20 : decode cX0_aimAtAll 20 = .ok (.iload_n 2, 1) := by decide +kernel
theorem dX0_aimAtAll_21 : decode cX0_aimAtAll 21 = .ok (.iaload, 1) := by decide +kernel
theorem dX0_aimAtAll_22 : decode cX0_aimAtAll 22 = .ok (.iload_n 1, 1) := by decide +kernel
theorem dX0_aimAtAll_23 : decode cX0_aimAtAll 23 = .ok (.if_icmp .ne 40, 3) := by decide +kernel
theorem dX0_aimAtAll_26 : decode cX0_aimAtAll 26 = .ok (.aload_n 0, 1) := by decide +kernel
theorem dX0_aimAtAll_27 : decode cX0_aimAtAll 27 = .ok (.getfield 15, 3) := by decide +kernel
theorem dX0_aimAtAll_30 : decode cX0_aimAtAll 30 = .ok (.aload_n 0, 1) := by decide +kernel
theorem dX0_aimAtAll_31 : decode cX0_aimAtAll 31 = .ok (.getfield 35, 3) := by decide +kernel
theorem dX0_aimAtAll_34 : decode cX0_aimAtAll 34 = .ok (.getfield 51, 3) := by decide +kernel
theorem dX0_aimAtAll_37 : decode cX0_aimAtAll 37 = .ok (.iconst 1, 1) := by decide +kernel
theorem dX0_aimAtAll_38 : decode cX0_aimAtAll 38 = .ok (.iload_n 2, 1) := by decide +kernel
theorem dX0_aimAtAll_39 : decode cX0_aimAtAll 39 = .ok (.ishl, 1) := by decide +kernel
theorem dX0_aimAtAll_40 : decode cX0_aimAtAll 40 = .ok (.iastore, 1) := by decide +kernel
theorem dX0_aimAtAll_41 : decode cX0_aimAtAll 41 = .ok (.aload_n 0, 1) := by decide +kernel
theorem dX0_aimAtAll_42 : decode cX0_aimAtAll 42 = .ok (.getfield 35, 3) := by decide +kernel
theorem dX0_aimAtAll_45 : decode cX0_aimAtAll 45 = .ok (.aload_n 0, 1) := by decide +kernel
theorem dX0_aimAtAll_46 : decode cX0_aimAtAll 46 = .ok (.getfield 26, 3) := by decide +kernel
theorem dX0_aimAtAll_49 : decode cX0_aimAtAll 49 = .ok (.getfield 69, 3) := by decide +kernel
theorem dX0_aimAtAll_52 : decode cX0_aimAtAll 52 = .ok (.aload_n 0, 1) := by decide +kernel
theorem dX0_aimAtAll_53 : decode cX0_aimAtAll 53 = .ok (.getfield 26, 3) := by decide +kernel
theorem dX0_aimAtAll_56 : decode cX0_aimAtAll 56 = .ok (.iload_n 2, 1) := by decide +kernel
theorem dX0_aimAtAll_57 : decode cX0_aimAtAll 57 = .ok (.invokevirtual 72, 3) := by decide +kernel
theorem dX0_aimAtAll_60 : decode cX0_aimAtAll 60 = .ok (.invokevirtual 75, 3) := by decide +kernel
theorem dX0_aimAtAll_63 : decode cX0_aimAtAll 63 = .ok (.iinc 2 1, 3) := by decide +kernel
theorem dX0_aimAtAll_66 : decode cX0_aimAtAll 66 = .ok (.goto (-64), 3) := by decide +kernel
theorem dX0_aimAtAll_69 : decode cX0_aimAtAll 69 = .ok (.return_, 1) := by decide +kernel
theorem dX0_isFarEnough_0 : decode cX0_isFarEnough 0 = .ok (.aload_n 0, 1) := by decide +kernel
theorem dX0_isFarEnough_1 : decode cX0_isFarEnough 1 = .ok (.getfield 35, 3) := by decide +kernel
theorem dX0_isFarEnough_4 : decode cX0_isFarEnough 4 = .ok (.invokevirtual 79, 3) := by decide +kernel
theorem dX0_isFarEnough_7 : decode cX0_isFarEnough 7 = .ok (.istore_n 1, 1) := by decide +kernel
theorem dX0_isFarEnough_8 : decode cX0_isFarEnough 8 = .ok (.aload_n 0, 1) := by decide +kernel
theorem dX0_isFarEnough_9 : decode cX0_isFarEnough 9 = .ok (.getfield 9, 3) := by decide +kernel
theorem dX0_isFarEnough_12 : decode cX0_isFarEnough 12 = .ok (.istore_n 2, 1) := by decide +kernel
theorem dX0_isFarEnough_13 : decode cX0_isFarEnough 13 = .ok (.iload_n 2, 1) := by decide +kernel
theorem dX0_isFarEnough_14 : decode cX0_isFarEnough 14 = .ok (.aload_n 0, 1) := by decide +kernel
theorem dX0_isFarEnough_15 : decode cX0_isFarEnough 15 = .ok (.getfield 35, 3) := by decide +kernel
theorem dX0_isFarEnough_18 : decode cX0_isFarEnough 18 = .ok (.getfield 51, 3) := by decide +kernel
theorem dX0_isFarEnough_21 : decode cX0_isFarEnough 21 = .ok (.if_icmp .ge 32, 3) := by decide +kernel
theorem dX0_isFarEnough_24 : decode cX0_isFarEnough 24 = .ok (.aload_n 0, 1) := by decide +kernel
theorem dX0_isFarEnough_25 : decode cX0_isFarEnough 25 = .ok (.getfield 35, 3) := by decide +kernel
theorem dX0_isFarEnough_28 : decode cX0_isFarEnough 28 = .ok (.getfield 83, 3) := by decide +kernel
theorem dX0_isFarEnough_31 : decode cX0_isFarEnough 31 = .ok (.iload_n 1, 1) := by decide +kernel
theorem dX0_isFarEnough_32 : decode cX0_isFarEnough 32 = .ok (.iload_n 2, 1) := by decide +kernel
theorem dX0_isFarEnough_33 : decode cX0_isFarEnough 33 = .ok (.iadd, 1) := by decide +kernel
theorem dX0_isFarEnough_34 : decode cX0_isFarEnough 34 = .ok (.iaload, 1) := by decide +kernel
theorem dX0_isFarEnough_35 : decode cX0_isFarEnough 35 = .ok (.aload_n 0, 1) := by decide +kernel
theorem dX0_isFarEnough_36 : decode cX0_isFarEnough 36 = .ok (.getfield 22, 3) := by decide +kernel
theorem dX0_isFarEnough_39 : decode cX0_isFarEnough 39 = .ok (.getfield 54, 3) := by decide +kernel
theorem dX0_isFarEnough_42 : decode cX0_isFarEnough 42 = .ok (.if_icmp .ge 5, 3) := by decide +kernel
theorem dX0_isFarEnough_45 : decode cX0_isFarEnough 45 = .ok (.iconst 0, 1) := by decide +kernel
theorem dX0_isFarEnough_46 : decode cX0_isFarEnough 46 = .ok (.ireturn, 1) := by decide +kernel
theorem dX0_isFarEnough_47 : decode cX0_isFarEnough 47 = .ok (.iinc 2 1, 3) := by decide +kernel
theorem dX0_isFarEnough_50 : decode cX0_isFarEnough 50 = .ok (.goto (-37), 3) := by decide +kernel
theorem dX0_isFarEnough_53 : decode cX0_isFarEnough 53 = .ok (.iconst 1, 1) := by decide +kernel
theorem dX0_isFarEnough_54 : decode cX0_isFarEnough 54 = .ok (.ireturn, 1) := by decide +kernel
theorem dX0_furtherThan_0 : decode cX0_furtherThan 0 = .ok (.iconst 0, 1) := by decide +kernel
theorem dX0_furtherThan_1 : decode cX0_furtherThan 1 = .ok (.istore_n 3, 1) := by decide +kernel
theorem dX0_furtherThan_2 : decode cX0_furtherThan 2 = .ok (.iload_n 3, 1) := by decide +kernel
theorem dX0_furtherThan_3 : decode cX0_furtherThan 3 = .ok (.aload_n 0, 1) := by decide +kernel
theorem dX0_furtherThan_4 : decode cX0_furtherThan 4 = .ok (.getfield 26, 3) := by decide +kernel
theorem dX0_furtherThan_7 : decode cX0_furtherThan 7 = .ok (.getfield 39, 3) := by decide +kernel
theorem dX0_furtherThan_10 : decode cX0_furtherThan 10 = .ok (.if_icmp .ge 27, 3) := by decide +kernel
theorem dX0_furtherThan_13 : decode cX0_furtherThan 13 = .ok (.aload_n 0, 1) := by decide +kernel
theorem dX0_furtherThan_14 : decode cX0_furtherThan 14 = .ok (.getfield 19, 3) := by decide +kernel
theorem dX0_furtherThan_17 : decode cX0_furtherThan 17 = .ok (.iload_n 3, 1) := by decide +kernel
theorem dX0_furtherThan_18 : decode cX0_furtherThan 18 = .ok (.iload_n 2, 1) := by decide +kernel
theorem dX0_furtherThan_19 : decode cX0_furtherThan 19 = .ok (.aload_n 0, 1) := by decide +kernel
theorem dX0_furtherThan_20 : decode cX0_furtherThan 20 = .ok (.getfield 26, 3) := by decide +kernel
theorem dX0_furtherThan_23 : decode cX0_furtherThan 23 = .ok (.getfield 39, 3) := by decide +kernel
theorem dX0_furtherThan_26 : decode cX0_furtherThan 26 = .ok (.iload_n 3, 1) := by decide +kernel
theorem dX0_furtherThan_27 : decode cX0_furtherThan 27 = .ok (.invokestatic 86, 3) := by decide +kernel
theorem dX0_furtherThan_30 : decode cX0_furtherThan 30 = .ok (.iastore, 1) := by decide +kernel
theorem dX0_furtherThan_31 : decode cX0_furtherThan 31 = .ok (.iinc 3 1, 3) := by decide +kernel
theorem dX0_furtherThan_34 : decode cX0_furtherThan 34 = .ok (.goto (-32), 3) := by decide +kernel
theorem dX0_furtherThan_37 : decode cX0_furtherThan 37 = .ok (.iconst 0, 1) := by decide +kernel
theorem dX0_furtherThan_38 : decode cX0_furtherThan 38 = .ok (.istore_n 3, 1) := by decide +kernel
theorem dX0_furtherThan_39 : decode cX0_furtherThan 39 = .ok (.iconst 0, 1) := by decide +kernel
theorem dX0_furtherThan_40 : decode cX0_furtherThan 40 = .ok (.istore 4, 2) := by decide +kernel
theorem dX0_furtherThan_42 : decode cX0_furtherThan 42 = .ok (.iload 4, 2) := by decide +kernel
theorem dX0_furtherThan_44 : decode cX0_furtherThan 44 = .ok (.aload_n 0, 1) := by decide +kernel
theorem dX0_furtherThan_45 : decode cX0_furtherThan 45 = .ok (.getfield 26, 3) := by decide +kernel
theorem dX0_furtherThan_48 : decode cX0_furtherThan 48 = .ok (.getfield 63, 3) := by decide +kernel
theorem dX0_furtherThan_51 : decode cX0_furtherThan 51 = .ok (.if_icmp .ge 69, 3) := by decide +kernel
theorem dX0_furtherThan_54 : decode cX0_furtherThan 54 = .ok (.aload_n 0, 1) := by decide +kernel
theorem dX0_furtherThan_55 : decode cX0_furtherThan 55 = .ok (.getfield 26, 3) := by decide +kernel
theorem dX0_furtherThan_58 : decode cX0_furtherThan 58 = .ok (.getfield 66, 3) := by decide +kernel
theorem dX0_furtherThan_61 : decode cX0_furtherThan 61 = .ok (.iload 4, 2) := by decide +kernel
theorem dX0_furtherThan_63 : decode cX0_furtherThan 63 = .ok (.iaload, 1) := by decide +kernel
theorem dX0_furtherThan_64 : decode cX0_furtherThan 64 = .ok (.iconst 1, 1) := by decide +kernel
theorem dX0_furtherThan_65 : decode cX0_furtherThan 65 = .ok (.if_icmp .ne 49, 3) := by decide +kernel
theorem dX0_furtherThan_68 : decode cX0_furtherThan 68 = .ok (.aload_n 0, 1) := by decide +kernel
theorem dX0_furtherThan_69 : decode cX0_furtherThan 69 = .ok (.getfield 22, 3) := by decide +kernel
theorem dX0_furtherThan_72 : decode cX0_furtherThan 72 = .ok (.aload_n 0, 1) := by decide +kernel
theorem dX0_furtherThan_73 : decode cX0_furtherThan 73 = .ok (.getfield 19, 3) := by decide +kernel
theorem dX0_furtherThan_76 : decode cX0_furtherThan 76 = .ok (.iconst 0, 1) := by decide +kernel
theorem dX0_furtherThan_77 : decode cX0_furtherThan 77 = .ok (.aload_n 0, 1) := by decide +kernel
theorem dX0_furtherThan_78 : decode cX0_furtherThan 78 = .ok (.getfield 26, 3) := by decide +kernel
theorem dX0_furtherThan_81 : decode cX0_furtherThan 81 = .ok (.getfield 69, 3) := by decide +kernel
theorem dX0_furtherThan_84 : decode cX0_furtherThan 84 = .ok (.aload_n 0, 1) := by decide +kernel
theorem dX0_furtherThan_85 : decode cX0_furtherThan 85 = .ok (.getfield 26, 3) := by decide +kernel
theorem dX0_furtherThan_88 : decode cX0_furtherThan 88 = .ok (.iload 4, 2) := by decide +kernel
theorem dX0_furtherThan_90 : decode cX0_furtherThan 90 = .ok (.invokevirtual 72, 3) := by decide +kernel
theorem dX0_furtherThan_93 : decode cX0_furtherThan 93 = .ok (.aload_n 0, 1) := by decide +kernel
theorem dX0_furtherThan_94 : decode cX0_furtherThan 94 = .ok (.getfield 26, 3) := by decide +kernel
theorem dX0_furtherThan_97 : decode cX0_furtherThan 97 = .ok (.getfield 39, 3) := by decide +kernel
theorem dX0_furtherThan_100 : decode cX0_furtherThan 100 = .ok (.invokevirtual 90, 3) := by decide +kernel
theorem dX0_furtherThan_103 : decode cX0_furtherThan 103 = .ok (.iload_n 1, 1) := by decide +kernel
theorem dX0_furtherThan_104 : decode cX0_furtherThan 104 = .ok (.if_icmp .le 10, 3) := by decide +kernel
theorem dX0_furtherThan_107 : decode cX0_furtherThan 107 = .ok (.iload_n 3, 1) := by decide +kernel
theorem dX0_furtherThan_108 : decode cX0_furtherThan 108 = .ok (.iconst 1, 1) := by decide +kernel
theorem dX0_furtherThan_109 : decode cX0_furtherThan 109 = .ok (.iload 4, 2) := by decide +kernel
theorem dX0_furtherThan_111 : decode cX0_furtherThan 111 = .ok (.ishl, 1) := by decide +kernel
theorem dX0_furtherThan_112 : decode cX0_furtherThan 112 = .ok (.ior, 1) := by decide +kernel
theorem dX0_furtherThan_113 : decode cX0_furtherThan 113 = .ok (.istore_n 3, 1) := by decide +kernel
theorem dX0_furtherThan_114 : decode cX0_furtherThan 114 = .ok (.iinc 4 1, 3) := by decide +kernel
theorem dX0_furtherThan_117 : decode cX0_furtherThan 117 = .ok (.goto (-75), 3) := by decide +kernel
theorem dX0_furtherThan_120 : decode cX0_furtherThan 120 = .ok (.iload_n 3, 1) := by decide +kernel
theorem dX0_furtherThan_121 : decode cX0_furtherThan 121 = .ok (.ireturn, 1) := by decide +kernel
theorem dX1_init_0 : decode cX1_init 0 = .ok (.aload_n 0, 1) := by decide +kernel
theorem dX1_init_1 : decode cX1_init 1 = .ok (.invokespecial 5, 3) := by decide +kernel
theorem dX1_init_4 : decode cX1_init 4 = .ok (.aload_n 0, 1) := by decide +kernel
theorem dX1_init_5 : decode cX1_init 5 = .ok (.iconst 0, 1) := by decide +kernel
theorem dX1_init_6 : decode cX1_init 6 = .ok (.putfield 11, 3) := by decide +kernel
theorem dX1_init_9 : decode cX1_init 9 = .ok (.aload_n 0, 1) := by decide +kernel
theorem dX1_init_10 : decode cX1_init 10 = .ok (.iconst (-1), 1) := by decide +kernel
theorem dX1_init_11 : decode cX1_init 11 = .ok (.putfield 15, 3) := by decide +kernel
theorem dX1_init_14 : decode cX1_init 14 = .ok (.aload_n 0, 1) := by decide +kernel
theorem dX1_init_15 : decode cX1_init 15 = .ok (.iconst 0, 1) := by decide +kernel
theorem dX1_init_16 : decode cX1_init 16 = .ok (.putfield 19, 3) := by decide +kernel
theorem dX1_init_19 : decode cX1_init 19 = .ok (.aload_n 0, 1) := by decide +kernel
theorem dX1_init_20 : decode cX1_init 20 = .ok (.bipush 8, 2) := by decide +kernel
theorem dX1_init_22 : decode cX1_init 22 = .ok (.newarray .int, 2) := by decide +kernel
theorem dX1_init_24 : decode cX1_init 24 = .ok (.putfield 22, 3) := by decide +kernel
theorem dX1_init_27 : decode cX1_init 27 = .ok (.aload_n 0, 1) := by decide +kernel
theorem dX1_init_28 : decode cX1_init 28 = .ok (.bipush 8, 2) := by decide +kernel
theorem dX1_init_30 : decode cX1_init 30 = .ok (.newarray .int, 2) := by decide +kernel
theorem dX1_init_32 : decode cX1_init 32 = .ok (.putfield 26, 3) := by decide +kernel
theorem dX1_init_35 : decode cX1_init 35 = .ok (.aload_n 0, 1) := by decide +kernel
theorem dX1_init_36 : decode cX1_init 36 = .ok (.sipush 576, 3) := by decide +kernel
theorem dX1_init_39 : decode cX1_init 39 = .ok (.newarray .int, 2) := by decide +kernel
theorem dX1_init_41 : decode cX1_init 41 = .ok (.putfield 29, 3) := by decide +kernel
theorem dX1_init_44 : decode cX1_init 44 = .ok (.aload_n 0, 1) := by decide +kernel
theorem dX1_init_45 : decode cX1_init 45 = .ok (.aload_n 1, 1) := by decide +kernel
theorem dX1_init_46 : decode cX1_init 46 = .ok (.putfield 32, 3) := by decide +kernel
theorem dX1_init_49 : decode cX1_init 49 = .ok (.aload_n 0, 1) := by decide +kernel
theorem dX1_init_50 : decode cX1_init 50 = .ok (.aload_n 2, 1) := by decide +kernel
theorem dX1_init_51 : decode cX1_init 51 = .ok (.putfield 36, 3) := by decide +kernel
theorem dX1_init_54 : decode cX1_init 54 = .ok (.return_, 1) := by decide +kernel
theorem dX1_editing_0 : decode cX1_editing 0 = .ok (.aload_n 0, 1) := by decide +kernel
theorem dX1_editing_1 : decode cX1_editing 1 = .ok (.iload 4, 2) := by decide +kernel
theorem dX1_editing_3 : decode cX1_editing 3 = .ok (.invokevirtual 40, 3) := by decide +kernel
theorem dX1_editing_6 : decode cX1_editing 6 = .ok (.iconst 0, 1) := by decide +kernel
theorem dX1_editing_7 : decode cX1_editing 7 = .ok (.istore 5, 2) := by decide +kernel
theorem dX1_editing_9 : decode cX1_editing 9 = .ok (.iload 5, 2) := by decide +kernel
theorem dX1_editing_11 : decode cX1_editing 11 = .ok (.iload_n 3, 1) := by decide +kernel
theorem dX1_editing_12 : decode cX1_editing 12 = .ok (.if_icmp .ge 23, 3) := by decide +kernel
theorem dX1_editing_15 : decode cX1_editing 15 = .ok (.aload_n 0, 1) := by decide +kernel
theorem dX1_editing_16 : decode cX1_editing 16 = .ok (.iload 5, 2) := by decide +kernel
theorem dX1_editing_18 : decode cX1_editing 18 = .ok (.aload_n 1, 1) := by decide +kernel
theorem dX1_editing_19 : decode cX1_editing 19 = .ok (.iload_n 2, 1) := by decide +kernel
theorem dX1_editing_20 : decode cX1_editing 20 = .ok (.iload 5, 2) := by decide +kernel
theorem dX1_editing_22 : decode cX1_editing 22 = .ok (.iadd, 1) := by decide +kernel
theorem dX1_editing_23 : decode cX1_editing 23 = .ok (.iaload, 1) := by decide +kernel
theorem dX1_editing_24 : decode cX1_editing 24 = .ok (.iload 4, 2) := by decide +kernel
theorem dX1_editing_26 : decode cX1_editing 26 = .ok (.invokevirtual 44, 3) := by decide +kernel
theorem dX1_editing_29 : decode cX1_editing 29 = .ok (.iinc 5 1, 3) := by decide +kernel
theorem dX1_editing_32 : decode cX1_editing 32 = .ok (.goto (-23), 3) := by decide +kernel
theorem dX1_editing_35 : decode cX1_editing 35 = .ok (.aload_n 0, 1) := by decide +kernel
theorem dX1_editing_36 : decode cX1_editing 36 = .ok (.getfield 29, 3) := by decide +kernel
theorem dX1_editing_39 : decode cX1_editing 39 = .ok (.iload_n 3, 1) := by decide +kernel
theorem dX1_editing_40 : decode cX1_editing 40 = .ok (.bipush 64, 2) := by decide +kernel
theorem dX1_editing_42 : decode cX1_editing 42 = .ok (.imul, 1) := by decide +kernel
theorem dX1_editing_43 : decode cX1_editing 43 = .ok (.iload 4, 2) := by decide +kernel
theorem dX1_editing_45 : decode cX1_editing 45 = .ok (.bipush 8, 2) := by decide +kernel
theorem dX1_editing_47 : decode cX1_editing 47 = .ok (.imul, 1) := by decide +kernel
theorem dX1_editing_48 : decode cX1_editing 48 = .ok (.iadd, 1) := by decide +kernel
theorem dX1_editing_49 : decode cX1_editing 49 = .ok (.aload_n 0, 1) := by decide +kernel
theorem dX1_editing_50 : decode cX1_editing 50 = .ok (.getfield 36, 3) := by decide +kernel
theorem dX1_editing_53 : decode cX1_editing 53 = .ok (.getfield 48, 3) := by decide +kernel
theorem dX1_editing_56 : decode cX1_editing 56 = .ok (.iadd, 1) := by decide +kernel
theorem dX1_editing_57 : decode cX1_editing 57 = .ok (.iaload, 1) := by decide +kernel
theorem dX1_editing_58 : decode cX1_editing 58 = .ok (.ireturn, 1) := by decide +kernel
theorem dX1_firstLine_0 : decode cX1_firstLine 0 = .ok (.iconst 0, 1) := by decide +kernel
theorem dX1_firstLine_1 : decode cX1_firstLine 1 = .ok (.istore_n 2, 1) := by decide +kernel
theorem dX1_firstLine_2 : decode cX1_firstLine 2 = .ok (.iload_n 2, 1) := by decide +kernel
theorem dX1_firstLine_3 : decode cX1_firstLine 3 = .ok (.aload_n 0, 1) := by decide +kernel
theorem dX1_firstLine_4 : decode cX1_firstLine 4 = .ok (.getfield 36, 3) := by decide +kernel
theorem dX1_firstLine_7 : decode cX1_firstLine 7 = .ok (.getfield 48, 3) := by decide +kernel
theorem dX1_firstLine_10 : decode cX1_firstLine 10 = .ok (.if_icmp .gt 29, 3) := by decide +kernel
theorem dX1_firstLine_13 : decode cX1_firstLine 13 = .ok (.aload_n 0, 1) := by decide +kernel
theorem dX1_firstLine_14 : decode cX1_firstLine 14 = .ok (.getfield 29, 3) := by decide +kernel
theorem dX1_firstLine_17 : decode cX1_firstLine 17 = .ok (.iload_n 1, 1) := by decide +kernel
theorem dX1_firstLine_18 : decode cX1_firstLine 18 = .ok (.bipush 8, 2) := by decide +kernel
theorem dX1_firstLine_20 : decode cX1_firstLine 20 = .ok (.imul, 1) := by decide +kernel
theorem dX1_firstLine_21 : decode cX1_firstLine 21 = .ok (.iload_n 2, 1) := by decide +kernel
theorem dX1_firstLine_22 : decode cX1_firstLine 22 = .ok (.iadd, 1) := by decide +kernel
theorem dX1_firstLine_23 : decode cX1_firstLine 23 = .ok (.iload_n 2, 1) := by decide +kernel
theorem dX1_firstLine_24 : decode cX1_firstLine 24 = .ok (.aload_n 0, 1) := by decide +kernel
theorem dX1_firstLine_25 : decode cX1_firstLine 25 = .ok (.getfield 32, 3) := by decide +kernel
theorem dX1_firstLine_28 : decode cX1_firstLine 28 = .ok (.getfield 51, 3) := by decide +kernel
theorem dX1_firstLine_31 : decode cX1_firstLine 31 = .ok (.imul, 1) := by decide +kernel
theorem dX1_firstLine_32 : decode cX1_firstLine 32 = .ok (.iastore, 1) := by decide +kernel
theorem dX1_firstLine_33 : decode cX1_firstLine 33 = .ok (.iinc 2 1, 3) := by decide +kernel
theorem dX1_firstLine_36 : decode cX1_firstLine 36 = .ok (.goto (-34), 3) := by decide +kernel
theorem dX1_firstLine_39 : decode cX1_firstLine 39 = .ok (.return_, 1) := by decide +kernel
theorem dX1_nextLine_0 : decode cX1_nextLine 0 = .ok (.iload_n 1, 1) := by decide +kernel
theorem dX1_nextLine_1 : decode cX1_nextLine 1 = .ok (.bipush 64, 2) := by decide +kernel
theorem dX1_nextLine_3 : decode cX1_nextLine 3 = .ok (.imul, 1) := by decide +kernel
theorem dX1_nextLine_4 : decode cX1_nextLine 4 = .ok (.iload_n 3, 1) := by decide +kernel
theorem dX1_nextLine_5 : decode cX1_nextLine 5 = .ok (.bipush 8, 2) := by decide +kernel
theorem dX1_nextLine_7 : decode cX1_nextLine 7 = .ok (.imul, 1) := by decide +kernel
theorem dX1_nextLine_8 : decode cX1_nextLine 8 = .ok (.iadd, 1) := by decide +kernel
theorem dX1_nextLine_9 : decode cX1_nextLine 9 = .ok (.istore 4, 2) := by decide +kernel
theorem dX1_nextLine_11 : decode cX1_nextLine 11 = .ok (.iload 4, 2) := by decide +kernel
theorem dX1_nextLine_13 : decode cX1_nextLine 13 = .ok (.bipush 64, 2) := by decide +kernel
theorem dX1_nextLine_15 : decode cX1_nextLine 15 = .ok (.iadd, 1) := by decide +kernel
theorem dX1_nextLine_16 : decode cX1_nextLine 16 = .ok (.istore 5, 2) := by decide +kernel
theorem dX1_nextLine_18 : decode cX1_nextLine 18 = .ok (.aload_n 0, 1) := by decide +kernel
theorem dX1_nextLine_19 : decode cX1_nextLine 19 = .ok (.getfield 36, 3) := by decide +kernel
theorem dX1_nextLine_22 : decode cX1_nextLine 22 = .ok (.iload_n 3, 1) := by decide +kernel
theorem dX1_nextLine_23 : decode cX1_nextLine 23 = .ok (.invokevirtual 56, 3) := by decide +kernel
theorem dX1_nextLine_26 : decode cX1_nextLine 26 = .ok (.istore 6, 2) := by decide +kernel
theorem dX1_nextLine_28 : decode cX1_nextLine 28 = .ok (.iload_n 2, 1) := by decide +kernel
theorem dX1_nextLine_29 : decode cX1_nextLine 29 = .ok (.iconst 4, 1) := by decide +kernel
theorem dX1_nextLine_30 : decode cX1_nextLine 30 = .ok (.imul, 1) := by decide +kernel
theorem dX1_nextLine_31 : decode cX1_nextLine 31 = .ok (.istore 7, 2) := by decide +kernel
theorem dX1_nextLine_33 : decode cX1_nextLine 33 = .ok (.aload_n 0, 1) := by decide +kernel
theorem dX1_nextLine_34 : decode cX1_nextLine 34 = .ok (.getfield 32, 3) := by decide +kernel
theorem dX1_nextLine_37 : decode cX1_nextLine 37 = .ok (.getfield 60, 3) := by decide +kernel
theorem dX1_nextLine_40 : decode cX1_nextLine 40 = .ok (.astore 8, 2) := by decide +kernel
theorem dX1_nextLine_42 : decode cX1_nextLine 42 = .ok (.aload_n 0, 1) := by decide +kernel
theorem dX1_nextLine_43 : decode cX1_nextLine 43 = .ok (.getfield 36, 3) := by decide +kernel
theorem dX1_nextLine_46 : decode cX1_nextLine 46 = .ok (.getfield 63, 3) := by decide +kernel
theorem dX1_nextLine_49 : decode cX1_nextLine 49 = .ok (.astore 9, 2) := by decide +kernel
theorem dX1_nextLine_51 : decode cX1_nextLine 51 = .ok (.aload_n 0, 1) := by decide +kernel
theorem dX1_nextLine_52 : decode cX1_nextLine 52 = .ok (.getfield 32, 3) := by decide +kernel
theorem dX1_nextLine_55 : decode cX1_nextLine 55 = .ok (.getfield 51, 3) := by decide +kernel
theorem dX1_nextLine_58 : decode cX1_nextLine 58 = .ok (.istore 10, 2) := by decide +kernel
theorem dX1_nextLine_60 : decode cX1_nextLine 60 = .ok (.aload_n 0, 1) := by decide +kernel
theorem dX1_nextLine_61 : decode cX1_nextLine 61 = .ok (.getfield 29, 3) := by decide +kernel
theorem dX1_nextLine_64 : decode cX1_nextLine 64 = .ok (.iload 4, 2) := by decide +kernel
theorem dX1_nextLine_66 : decode cX1_nextLine 66 = .ok (.iaload, 1) := by decide +kernel
theorem dX1_nextLine_67 : decode cX1_nextLine 67 = .ok (.istore 11, 2) := by decide +kernel
theorem dX1_nextLine_69 : decode cX1_nextLine 69 = .ok (.iload 11, 2) := by decide +kernel
theorem dX1_nextLine_71 : decode cX1_nextLine 71 = .ok (.iload 10, 2) := by decide +kernel
theorem dX1_nextLine_73 : decode cX1_nextLine 73 = .ok (.iadd, 1) := by decide +kernel
theorem dX1_nextLine_74 : decode cX1_nextLine 74 = .ok (.istore 12, 2) := by decide +kernel
theorem dX1_nextLine_76 : decode cX1_nextLine 76 = .ok (.aload_n 0, 1) := by decide +kernel
theorem dX1_nextLine_77 : decode cX1_nextLine 77 = .ok (.getfield 29, 3) := by decide +kernel
theorem dX1_nextLine_80 : decode cX1_nextLine 80 = .ok (.iload 5, 2) := by decide +kernel
theorem dX1_nextLine_82 : decode cX1_nextLine 82 = .ok (.iload 12, 2) := by decide +kernel
theorem dX1_nextLine_84 : decode cX1_nextLine 84 = .ok (.iastore, 1) := by decide +kernel
theorem dX1_nextLine_85 : decode cX1_nextLine 85 = .ok (.iconst 0, 1) := by decide +kernel
theorem dX1_nextLine_86 : decode cX1_nextLine 86 = .ok (.istore 13, 2) := by decide +kernel
theorem dX1_nextLine_88 : decode cX1_nextLine 88 = .ok (.iload 13, 2) := by decide +kernel
theorem dX1_nextLine_90 : decode cX1_nextLine 90 = .ok (.aload_n 0, 1) := by decide +kernel
theorem dX1_nextLine_91 : decode cX1_nextLine 91 = .ok (.getfield 36, 3) := by decide +kernel
theorem dX1_nextLine_94 : decode cX1_nextLine 94 = .ok (.getfield 48, 3) := by decide +kernel
theorem dX1_nextLine_97 : decode cX1_nextLine 97 = .ok (.if_icmp .ge 86, 3) := by decide +kernel
theorem dX1_nextLine_100 : decode cX1_nextLine 100 = .ok (.iload 11, 2) := by decide +kernel
theorem dX1_nextLine_102 : decode cX1_nextLine 102 = .ok (.aload 8, 2) := by decide +kernel
theorem dX1_nextLine_104 : decode cX1_nextLine 104 = .ok (.iload 7, 2) := by decide +kernel
theorem dX1_nextLine_106 : decode cX1_nextLine 106 = .ok (.aload 9, 2) := by decide +kernel
theorem dX1_nextLine_108 : decode cX1_nextLine 108 = .ok (.iload 6, 2) := by decide +kernel
theorem dX1_nextLine_110 : decode cX1_nextLine 110 = .ok (.iload 13, 2) := by decide +kernel
theorem dX1_nextLine_112 : decode cX1_nextLine 112 = .ok (.iadd, 1) := by decide +kernel
theorem dX1_nextLine_113 : decode cX1_nextLine 113 = .ok (.iaload, 1) := by decide +kernel
theorem dX1_nextLine_114 : decode cX1_nextLine 114 = .ok (.iadd, 1) := by decide +kernel
theorem dX1_nextLine_115 : decode cX1_nextLine 115 = .ok (.iaload, 1) := by decide +kernel
theorem dX1_nextLine_116 : decode cX1_nextLine 116 = .ok (.iadd, 1) := by decide +kernel
theorem dX1_nextLine_117 : decode cX1_nextLine 117 = .ok (.istore 14, 2) := by decide +kernel
theorem dX1_nextLine_119 : decode cX1_nextLine 119 = .ok (.aload_n 0, 1) := by decide +kernel
theorem dX1_nextLine_120 : decode cX1_nextLine 120 = .ok (.getfield 29, 3) := by decide +kernel
theorem dX1_nextLine_123 : decode cX1_nextLine 123 = .ok (.iload 4, 2) := by decide +kernel
theorem dX1_nextLine_125 : decode cX1_nextLine 125 = .ok (.iload 13, 2) := by decide +kernel
theorem dX1_nextLine_127 : decode cX1_nextLine 127 = .ok (.iadd, 1) := by decide +kernel
theorem dX1_nextLine_128 : decode cX1_nextLine 128 = .ok (.iconst 1, 1) := by decide +kernel
theorem dX1_nextLine_129 : decode cX1_nextLine 129 = .ok (.iadd, 1) := by decide +kernel
theorem dX1_nextLine_130 : decode cX1_nextLine 130 = .ok (.iaload, 1) := by decide +kernel
theorem dX1_nextLine_131 : decode cX1_nextLine 131 = .ok (.istore 11, 2) := by decide +kernel
theorem dX1_nextLine_133 : decode cX1_nextLine 133 = .ok (.iload 11, 2) := by decide +kernel
theorem dX1_nextLine_135 : decode cX1_nextLine 135 = .ok (.iload 12, 2) := by decide +kernel
theorem dX1_nextLine_137 : decode cX1_nextLine 137 = .ok (.if_icmp .ge 8, 3) := by decide +kernel
theorem dX1_nextLine_140 : decode cX1_nextLine 140 = .ok (.iload 11, 2) := by decide +kernel
theorem dX1_nextLine_142 : decode cX1_nextLine 142 = .ok (.goto 5, 3) := by decide +kernel
theorem dX1_nextLine_145 : decode cX1_nextLine 145 = .ok (.iload 12, 2) := by decide +kernel
theorem dX1_nextLine_147 : decode cX1_nextLine 147 = .ok (.iload 10, 2) := by decide +kernel
theorem dX1_nextLine_149 : decode cX1_nextLine 149 = .ok (.iadd, 1) := by decide +kernel
theorem dX1_nextLine_150 : decode cX1_nextLine 150 = .ok (.istore 12, 2) := by decide +kernel
theorem dX1_nextLine_152 : decode cX1_nextLine 152 = .ok (.iload 14, 2) := by decide +kernel
theorem dX1_nextLine_154 : decode cX1_nextLine 154 = .ok (.iload 12, 2) := by decide +kernel
theorem dX1_nextLine_156 : decode cX1_nextLine 156 = .ok (.if_icmp .ge 7, 3) := by decide +kernel
theorem dX1_nextLine_159 : decode cX1_nextLine 159 = .ok (.iload 14, 2) := by decide +kernel
theorem dX1_nextLine_161 : decode cX1_nextLine 161 = .ok (.istore 12, 2) := by decide +kernel
theorem dX1_nextLine_163 : decode cX1_nextLine 163 = .ok (.aload_n 0, 1) := by decide +kernel
theorem dX1_nextLine_164 : decode cX1_nextLine 164 = .ok (.getfield 29, 3) := by decide +kernel
theorem dX1_nextLine_167 : decode cX1_nextLine 167 = .ok (.iload 5, 2) := by decide +kernel
theorem dX1_nextLine_169 : decode cX1_nextLine 169 = .ok (.iload 13, 2) := by decide +kernel
theorem dX1_nextLine_171 : decode cX1_nextLine 171 = .ok (.iadd, 1) := by decide +kernel
theorem dX1_nextLine_172 : decode cX1_nextLine 172 = .ok (.iconst 1, 1) := by decide +kernel
theorem dX1_nextLine_173 : decode cX1_nextLine 173 = .ok (.iadd, 1) := by decide +kernel
theorem dX1_nextLine_174 : decode cX1_nextLine 174 = .ok (.iload 12, 2) := by decide +kernel
theorem dX1_nextLine_176 : decode cX1_nextLine 176 = .ok (.iastore, 1) := by decide +kernel
theorem dX1_nextLine_177 : decode cX1_nextLine 177 = .ok (.iinc 13 1, 3) := by decide +kernel
theorem dX1_nextLine_180 : decode cX1_nextLine 180 = .ok (.goto (-92), 3) := by decide +kernel
theorem dX1_nextLine_183 : decode cX1_nextLine 183 = .ok (.return_, 1) := by decide +kernel
theorem dX1_refresh_0 : decode cX1_refresh 0 = .ok (.aload_n 0, 1) := by decide +kernel
theorem dX1_refresh_1 : decode cX1_refresh 1 = .ok (.getfield 11, 3) := by decide +kernel
theorem dX1_refresh_4 : decode cX1_refresh 4 = .ok (.ifCond .eq 4, 3) := by decide +kernel
theorem dX1_refresh_7 : decode cX1_refresh 7 = .ok (.return_, 1) := by decide +kernel
theorem dX1_refresh_8 : decode cX1_refresh 8 = .ok (.aload_n 0, 1) := by decide +kernel
theorem dX1_refresh_9 : decode cX1_refresh 9 = .ok (.iconst 1, 1) := by decide +kernel
theorem dX1_refresh_10 : decode cX1_refresh 10 = .ok (.putfield 11, 3) := by decide +kernel
theorem dX1_refresh_13 : decode cX1_refresh 13 = .ok (.aload_n 0, 1) := by decide +kernel
theorem dX1_refresh_14 : decode cX1_refresh 14 = .ok (.iconst (-1), 1) := by decide +kernel
theorem dX1_refresh_15 : decode cX1_refresh 15 = .ok (.putfield 15, 3) := by decide +kernel
theorem dX1_refresh_18 : decode cX1_refresh 18 = .ok (.aload_n 0, 1) := by decide +kernel
theorem dX1_refresh_19 : decode cX1_refresh 19 = .ok (.getfield 36, 3) := by decide +kernel
theorem dX1_refresh_22 : decode cX1_refresh 22 = .ok (.invokevirtual 66, 3) := by decide +kernel
theorem dX1_refresh_25 : decode cX1_refresh 25 = .ok (.ifCond .eq 56, 3) := by decide +kernel
theorem dX1_refresh_28 : decode cX1_refresh 28 = .ok (.aload_n 0, 1) := by decide +kernel
theorem dX1_refresh_29 : decode cX1_refresh 29 = .ok (.aload_n 0, 1) := by decide +kernel
theorem dX1_refresh_30 : decode cX1_refresh 30 = .ok (.invokevirtual 70, 3) := by decide +kernel
theorem dX1_refresh_33 : decode cX1_refresh 33 = .ok (.iconst 1, 1) := by decide +kernel
theorem dX1_refresh_34 : decode cX1_refresh 34 = .ok (.iadd, 1) := by decide +kernel
theorem dX1_refresh_35 : decode cX1_refresh 35 = .ok (.putfield 15, 3) := by decide +kernel
theorem dX1_refresh_38 : decode cX1_refresh 38 = .ok (.iconst 0, 1) := by decide +kernel
theorem dX1_refresh_39 : decode cX1_refresh 39 = .ok (.istore_n 1, 1) := by decide +kernel
theorem dX1_refresh_40 : decode cX1_refresh 40 = .ok (.iload_n 1, 1) := by decide +kernel
theorem dX1_refresh_41 : decode cX1_refresh 41 = .ok (.aload_n 0, 1) := by decide +kernel
theorem dX1_refresh_42 : decode cX1_refresh 42 = .ok (.getfield 36, 3) := by decide +kernel
theorem dX1_refresh_45 : decode cX1_refresh 45 = .ok (.getfield 74, 3) := by decide +kernel
theorem dX1_refresh_48 : decode cX1_refresh 48 = .ok (.if_icmp .ge 14, 3) := by decide +kernel
theorem dX1_refresh_51 : decode cX1_refresh 51 = .ok (.aload_n 0, 1) := by decide +kernel
theorem dX1_refresh_52 : decode cX1_refresh 52 = .ok (.iload_n 1, 1) := by decide +kernel
theorem dX1_refresh_53 : decode cX1_refresh 53 = .ok (.invokevirtual 40, 3) := by decide +kernel
theorem dX1_refresh_56 : decode cX1_refresh 56 = .ok (.iinc 1 1, 3) := by decide +kernel
theorem dX1_refresh_59 : decode cX1_refresh 59 = .ok (.goto (-19), 3) := by decide +kernel
theorem dX1_refresh_62 : decode cX1_refresh 62 = .ok (.iconst 1, 1) := by decide +kernel
theorem dX1_refresh_63 : decode cX1_refresh 63 = .ok (.istore_n 1, 1) := by decide +kernel
theorem dX1_refresh_64 : decode cX1_refresh 64 = .ok (.iload_n 1, 1) := by decide +kernel
theorem dX1_refresh_65 : decode cX1_refresh 65 = .ok (.bipush 8, 2) := by decide +kernel
theorem dX1_refresh_67 : decode cX1_refresh 67 = .ok (.if_icmp .gt 14, 3) := by decide +kernel
theorem dX1_refresh_70 : decode cX1_refresh 70 = .ok (.aload_n 0, 1) := by decide +kernel
theorem dX1_refresh_71 : decode cX1_refresh 71 = .ok (.iload_n 1, 1) := by decide +kernel
theorem dX1_refresh_72 : decode cX1_refresh 72 = .ok (.invokevirtual 77, 3) := by decide +kernel
theorem dX1_refresh_75 : decode cX1_refresh 75 = .ok (.iinc 1 1, 3) := by decide +kernel
theorem dX1_refresh_78 : decode cX1_refresh 78 = .ok (.goto (-14), 3) := by decide +kernel
theorem dX1_refresh_81 : decode cX1_refresh 81 = .ok (.return_, 1) := by decide +kernel
theorem dX1_leastOfNear_0 : decode cX1_leastOfNear 0 = .ok (.ldc 80, 2) := by decide +kernel
theorem dX1_leastOfNear_2 : decode cX1_leastOfNear 2 = .ok (.istore_n 1, 1) := by decide +kernel
theorem dX1_leastOfNear_3 : decode cX1_leastOfNear 3 = .ok (.iconst 0, 1) := by decide +kernel
theorem dX1_leastOfNear_4 : decode cX1_leastOfNear 4 = .ok (.istore_n 2, 1) := by decide +kernel
theorem dX1_leastOfNear_5 : decode cX1_leastOfNear 5 = .ok (.iload_n 2, 1) := by decide +kernel
theorem dX1_leastOfNear_6 : decode cX1_leastOfNear 6 = .ok (.aload_n 0, 1) := by decide +kernel
theorem dX1_leastOfNear_7 : decode cX1_leastOfNear 7 = .ok (.getfield 36, 3) := by decide +kernel
theorem dX1_leastOfNear_10 : decode cX1_leastOfNear 10 = .ok (.getfield 74, 3) := by decide +kernel
theorem dX1_leastOfNear_13 : decode cX1_leastOfNear 13 = .ok (.if_icmp .ge 32, 3) := by decide +kernel
theorem dX1_leastOfNear_16 : decode cX1_leastOfNear 16 = .ok (.aload_n 0, 1) := by decide +kernel
theorem dX1_leastOfNear_17 : decode cX1_leastOfNear 17 = .ok (.getfield 36, 3) := by decide +kernel
theorem dX1_leastOfNear_20 : decode cX1_leastOfNear 20 = .ok (.getfield 81, 3) := by decide +kernel
theorem dX1_leastOfNear_23 : decode cX1_leastOfNear 23 = .ok (.iload_n 2, 1) := by decide +kernel
theorem dX1_leastOfNear_24 : decode cX1_leastOfNear 24 = .ok (.iaload, 1) := by decide +kernel
theorem dX1_leastOfNear_25 : decode cX1_leastOfNear 25 = .ok (.iconst 1, 1) := by decide +kernel
theorem dX1_leastOfNear_26 : decode cX1_leastOfNear 26 = .ok (.if_icmp .ne 13, 3) := by decide +kernel
theorem dX1_leastOfNear_29 : decode cX1_leastOfNear 29 = .ok (.iload_n 1, 1) := by decide +kernel
theorem dX1_leastOfNear_30 : decode cX1_leastOfNear 30 = .ok (.aload_n 0, 1) := by decide +kernel
theorem dX1_leastOfNear_31 : decode cX1_leastOfNear 31 = .ok (.iload_n 2, 1) := by decide +kernel
theorem dX1_leastOfNear_32 : decode cX1_leastOfNear 32 = .ok (.invokevirtual 84, 3) := by decide +kernel
theorem dX1_leastOfNear_35 : decode cX1_leastOfNear 35 = .ok (.invokestatic 87, 3) := by decide +kernel
theorem dX1_leastOfNear_38 : decode cX1_leastOfNear 38 = .ok (.istore_n 1, 1) := by decide +kernel
theorem dX1_leastOfNear_39 : decode cX1_leastOfNear 39 = .ok (.iinc 2 1, 3) := by decide +kernel
theorem dX1_leastOfNear_42 : decode cX1_leastOfNear 42 = .ok (.goto (-37), 3) := by decide +kernel
theorem dX1_leastOfNear_45 : decode cX1_leastOfNear 45 = .ok (.iload_n 1, 1) := by decide +kernel
theorem dX1_leastOfNear_46 : decode cX1_leastOfNear 46 = .ok (.ireturn, 1) := by decide +kernel
theorem dX1_sumFrom_0 : decode cX1_sumFrom 0 = .ok (.iconst 0, 1) := by decide +kernel
theorem dX1_sumFrom_1 : decode cX1_sumFrom 1 = .ok (.istore_n 2, 1) := by decide +kernel
theorem dX1_sumFrom_2 : decode cX1_sumFrom 2 = .ok (.iconst 0, 1) := by decide +kernel
theorem dX1_sumFrom_3 : decode cX1_sumFrom 3 = .ok (.istore_n 3, 1) := by decide +kernel
theorem dX1_sumFrom_4 : decode cX1_sumFrom 4 = .ok (.iload_n 3, 1) := by decide +kernel
theorem dX1_sumFrom_5 : decode cX1_sumFrom 5 = .ok (.aload_n 0, 1) := by decide +kernel
theorem dX1_sumFrom_6 : decode cX1_sumFrom 6 = .ok (.getfield 36, 3) := by decide +kernel
theorem dX1_sumFrom_9 : decode cX1_sumFrom 9 = .ok (.getfield 74, 3) := by decide +kernel
theorem dX1_sumFrom_12 : decode cX1_sumFrom 12 = .ok (.if_icmp .ge 52, 3) := by decide +kernel
theorem dX1_sumFrom_15 : decode cX1_sumFrom 15 = .ok (.aload_n 0, 1) := by decide +kernel
theorem dX1_sumFrom_16 : decode cX1_sumFrom 16 = .ok (.getfield 36, 3) := by decide +kernel
theorem dX1_sumFrom_19 : decode cX1_sumFrom 19 = .ok (.getfield 81, 3) := by decide +kernel
theorem dX1_sumFrom_22 : decode cX1_sumFrom 22 = .ok (.iload_n 3, 1) := by decide +kernel
theorem dX1_sumFrom_23 : decode cX1_sumFrom 23 = .ok (.iaload, 1) := by decide +kernel
theorem dX1_sumFrom_24 : decode cX1_sumFrom 24 = .ok (.iconst 1, 1) := by decide +kernel
theorem dX1_sumFrom_25 : decode cX1_sumFrom 25 = .ok (.if_icmp .ne 33, 3) := by decide +kernel
theorem dX1_sumFrom_28 : decode cX1_sumFrom 28 = .ok (.iload_n 2, 1) := by decide +kernel
theorem dX1_sumFrom_29 : decode cX1_sumFrom 29 = .ok (.aload_n 0, 1) := by decide +kernel
theorem dX1_sumFrom_30 : decode cX1_sumFrom 30 = .ok (.aload_n 0, 1) := by decide +kernel
theorem dX1_sumFrom_31 : decode cX1_sumFrom 31 = .ok (.getfield 36, 3) := by decide +kernel
theorem dX1_sumFrom_34 : decode cX1_sumFrom 34 = .ok (.getfield 63, 3) := by decide +kernel
theorem dX1_sumFrom_37 : decode cX1_sumFrom 37 = .ok (.aload_n 0, 1) := by decide +kernel
theorem dX1_sumFrom_38 : decode cX1_sumFrom 38 = .ok (.getfield 36, 3) := by decide +kernel
theorem dX1_sumFrom_41 : decode cX1_sumFrom 41 = .ok (.iload_n 1, 1) := by decide +kernel
theorem dX1_sumFrom_42 : decode cX1_sumFrom 42 = .ok (.invokevirtual 56, 3) := by decide +kernel
theorem dX1_sumFrom_45 : decode cX1_sumFrom 45 = .ok (.aload_n 0, 1) := by decide +kernel
theorem dX1_sumFrom_46 : decode cX1_sumFrom 46 = .ok (.getfield 36, 3) := by decide +kernel
theorem dX1_sumFrom_49 : decode cX1_sumFrom 49 = .ok (.getfield 48, 3) := by decide +kernel
theorem dX1_sumFrom_52 : decode cX1_sumFrom 52 = .ok (.iload_n 3, 1) := by decide +kernel
theorem dX1_sumFrom_53 : decode cX1_sumFrom 53 = .ok (.invokevirtual 93, 3) := by decide +kernel
theorem dX1_sumFrom_56 : decode cX1_sumFrom 56 = .ok (.iadd, 1) := by decide +kernel
theorem dX1_sumFrom_57 : decode cX1_sumFrom 57 = .ok (.istore_n 2, 1) := by decide +kernel
theorem dX1_sumFrom_58 : decode cX1_sumFrom 58 = .ok (.iinc 3 1, 3) := by decide +kernel
theorem dX1_sumFrom_61 : decode cX1_sumFrom 61 = .ok (.goto (-57), 3) := by decide +kernel
theorem dX1_sumFrom_64 : decode cX1_sumFrom 64 = .ok (.iload_n 2, 1) := by decide +kernel
theorem dX1_sumFrom_65 : decode cX1_sumFrom 65 = .ok (.ireturn, 1) := by decide +kernel
theorem dX1_search_0 : decode cX1_search 0 = .ok (.iconst 0, 1) := by decide +kernel
theorem dX1_search_1 : decode cX1_search 1 = .ok (.istore_n 2, 1) := by decide +kernel
theorem dX1_search_2 : decode cX1_search 2 = .ok (.iload_n 2, 1) := by decide +kernel
theorem dX1_search_3 : decode cX1_search 3 = .ok (.iload_n 1, 1) := by decide +kernel
theorem dX1_search_4 : decode cX1_search 4 = .ok (.if_icmp .ge 16, 3) := by decide +kernel
theorem dX1_search_7 : decode cX1_search 7 = .ok (.aload_n 0, 1) := by decide +kernel
theorem dX1_search_8 : decode cX1_search 8 = .ok (.getfield 26, 3) := by decide +kernel
theorem dX1_search_11 : decode cX1_search 11 = .ok (.iload_n 2, 1) := by decide +kernel
theorem dX1_search_12 : decode cX1_search 12 = .ok (.iconst 0, 1) := by decide +kernel
theorem dX1_search_13 : decode cX1_search 13 = .ok (.iastore, 1) := by decide +kernel
theorem dX1_search_14 : decode cX1_search 14 = .ok (.iinc 2 1, 3) := by decide +kernel
theorem dX1_search_17 : decode cX1_search 17 = .ok (.goto (-15), 3) := by decide +kernel
theorem dX1_search_20 : decode cX1_search 20 = .ok (.iconst 0, 1) := by decide +kernel
theorem dX1_search_21 : decode cX1_search 21 = .ok (.istore_n 2, 1) := by decide +kernel
theorem dX1_search_22 : decode cX1_search 22 = .ok (.aload_n 0, 1) := by decide +kernel
theorem dX1_search_23 : decode cX1_search 23 = .ok (.getfield 32, 3) := by decide +kernel
theorem dX1_search_26 : decode cX1_search 26 = .ok (.iload_n 1, 1) := by decide +kernel
theorem dX1_search_27 : decode cX1_search 27 = .ok (.invokevirtual 97, 3) := by decide +kernel
theorem dX1_search_30 : decode cX1_search 30 = .ok (.istore_n 3, 1) := by decide +kernel
theorem dX1_search_31 : decode cX1_search 31 = .ok (.iload_n 3, 1) := by decide +kernel
theorem dX1_search_32 : decode cX1_search 32 = .ok (.ifCond .le 36, 3) := by decide +kernel
theorem dX1_search_35 : decode cX1_search 35 = .ok (.iload_n 2, 1) := by decide +kernel
theorem dX1_search_36 : decode cX1_search 36 = .ok (.ifCond .lt 32, 3) := by decide +kernel
theorem dX1_search_39 : decode cX1_search 39 = .ok (.aload_n 0, 1) := by decide +kernel
theorem dX1_search_40 : decode cX1_search 40 = .ok (.iload_n 2, 1) := by decide +kernel
theorem dX1_search_41 : decode cX1_search 41 = .ok (.iload_n 1, 1) := by decide +kernel
theorem dX1_search_42 : decode cX1_search 42 = .ok (.invokevirtual 100, 3) := by decide +kernel
theorem dX1_search_45 : decode cX1_search 45 = .ok (.istore 4, 2) := by decide +kernel
theorem dX1_search_47 : decode cX1_search 47 = .ok (.aload_n 0, 1) := by decide +kernel
theorem dX1_search_48 : decode cX1_search 48 = .ok (.getfield 32, 3) := by decide +kernel
theorem dX1_search_51 : decode cX1_search 51 = .ok (.aload_n 0, 1) := by decide +kernel
theorem dX1_search_52 : decode cX1_search 52 = .ok (.getfield 26, 3) := by decide +kernel
theorem dX1_search_55 : decode cX1_search 55 = .ok (.iload 4, 2) := by decide +kernel
theorem dX1_search_57 : decode cX1_search 57 = .ok (.iload_n 1, 1) := by decide +kernel
theorem dX1_search_58 : decode cX1_search 58 = .ok (.invokevirtual 103, 3) := by decide +kernel
theorem dX1_search_61 : decode cX1_search 61 = .ok (.istore_n 2, 1) := by decide +kernel
theorem dX1_search_62 : decode cX1_search 62 = .ok (.iinc 3 (-1), 3) := by decide +kernel
theorem dX1_search_65 : decode cX1_search 65 = .ok (.goto (-34), 3) := by decide +kernel
theorem dX1_search_68 : decode cX1_search 68 = .ok (.return_, 1) := by decide +kernel
theorem dX1_descend_0 : decode cX1_descend 0 = .ok (.iload_n 1, 1) := by decide +kernel
theorem dX1_descend_1 : decode cX1_descend 1 = .ok (.istore_n 3, 1) := by decide +kernel
theorem dX1_descend_2 : decode cX1_descend 2 = .ok (.iload_n 3, 1) := by decide +kernel
theorem dX1_descend_3 : decode cX1_descend 3 = .ok (.iload_n 2, 1) := by decide +kernel
theorem dX1_descend_4 : decode cX1_descend 4 = .ok (.if_icmp .ge 64, 3) := by decide +kernel
theorem dX1_descend_7 : decode cX1_descend 7 = .ok (.aload_n 0, 1) := by decide +kernel
theorem dX1_descend_8 : decode cX1_descend 8 = .ok (.iload_n 3, 1) := by decide +kernel
theorem dX1_descend_9 : decode cX1_descend 9 = .ok (.iload_n 2, 1) := by decide +kernel
theorem dX1_descend_10 : decode cX1_descend 10 = .ok (.iload_n 3, 1) := by decide +kernel
theorem dX1_descend_11 : decode cX1_descend 11 = .ok (.isub, 1) := by decide +kernel
theorem dX1_descend_12 : decode cX1_descend 12 = .ok (.iconst 1, 1) := by decide +kernel
theorem dX1_descend_13 : decode cX1_descend 13 = .ok (.isub, 1) := by decide +kernel
theorem dX1_descend_14 : decode cX1_descend 14 = .ok (.invokevirtual 107, 3) := by decide +kernel
theorem dX1_descend_17 : decode cX1_descend 17 = .ok (.istore 4, 2) := by decide +kernel
theorem dX1_descend_19 : decode cX1_descend 19 = .ok (.iload 4, 2) := by decide +kernel
theorem dX1_descend_21 : decode cX1_descend 21 = .ok (.aload_n 0, 1) := by decide +kernel
theorem dX1_descend_22 : decode cX1_descend 22 = .ok (.getfield 15, 3) := by decide +kernel
theorem dX1_descend_25 : decode cX1_descend 25 = .ok (.if_icmp .lt 5, 3) := by decide +kernel
theorem dX1_descend_28 : decode cX1_descend 28 = .ok (.iload_n 3, 1) := by decide +kernel
theorem dX1_descend_29 : decode cX1_descend 29 = .ok (.ireturn, 1) := by decide +kernel
theorem dX1_descend_30 : decode cX1_descend 30 = .ok (.iload_n 3, 1) := by decide +kernel
theorem dX1_descend_31 : decode cX1_descend 31 = .ok (.iload_n 2, 1) := by decide +kernel
theorem dX1_descend_32 : decode cX1_descend 32 = .ok (.iconst 1, 1) := by decide +kernel
theorem dX1_descend_33 : decode cX1_descend 33 = .ok (.isub, 1) := by decide +kernel
theorem dX1_descend_34 : decode cX1_descend 34 = .ok (.if_icmp .ne 28, 3) := by decide +kernel
theorem dX1_descend_37 : decode cX1_descend 37 = .ok (.aload_n 0, 1) := by decide +kernel
theorem dX1_descend_38 : decode cX1_descend 38 = .ok (.iload 4, 2) := by decide +kernel
theorem dX1_descend_40 : decode cX1_descend 40 = .ok (.putfield 15, 3) := by decide +kernel
theorem dX1_descend_43 : decode cX1_descend 43 = .ok (.aload_n 0, 1) := by decide +kernel
theorem dX1_descend_44 : decode cX1_descend 44 = .ok (.iload_n 2, 1) := by decide +kernel
theorem dX1_descend_45 : decode cX1_descend 45 = .ok (.putfield 19, 3) := by decide +kernel
theorem dX1_descend_48 : decode cX1_descend 48 = .ok (.aload_n 0, 1) := by decide +kernel
theorem dX1_descend_49 : decode cX1_descend 49 = .ok (.getfield 26, 3) := by decide +kernel
theorem dX1_descend_52 : decode cX1_descend 52 = .ok (.iconst 0, 1) := by decide +kernel
theorem dX1_descend_53 : decode cX1_descend 53 = .ok (.aload_n 0, 1) := by decide +kernel
theorem dX1_descend_54 : decode cX1_descend 54 = .ok (.getfield 22, 3) := by decide +kernel
theorem dX1_descend_57 : decode cX1_descend 57 = .ok (.iconst 0, 1) := by decide +kernel
theorem dX1_descend_58 : decode cX1_descend 58 = .ok (.iload_n 2, 1) := by decide +kernel
theorem dX1_descend_59 : decode cX1_descend 59 = .ok (.invokestatic 110, 3) := by decide +kernel
theorem dX1_descend_62 : decode cX1_descend 62 = .ok (.iinc 3 1, 3) := by decide +kernel
theorem dX1_descend_65 : decode cX1_descend 65 = .ok (.goto (-63), 3) := by decide +kernel
theorem dX1_descend_68 : decode cX1_descend 68 = .ok (.iload_n 2, 1) := by decide +kernel
theorem dX1_descend_69 : decode cX1_descend 69 = .ok (.iconst 1, 1) := by decide +kernel
theorem dX1_descend_70 : decode cX1_descend 70 = .ok (.isub, 1) := by decide +kernel
theorem dX1_descend_71 : decode cX1_descend 71 = .ok (.ireturn, 1) := by decide +kernel
theorem dX1_put_0 : decode cX1_put 0 = .ok (.iconst 0, 1) := by decide +kernel
theorem dX1_put_1 : decode cX1_put 1 = .ok (.istore_n 3, 1) := by decide +kernel
theorem dX1_put_2 : decode cX1_put 2 = .ok (.iconst 0, 1) := by decide +kernel
theorem dX1_put_3 : decode cX1_put 3 = .ok (.istore 4, 2) := by decide +kernel
theorem dX1_put_5 : decode cX1_put 5 = .ok (.iload 4, 2) := by decide +kernel
theorem dX1_put_7 : decode cX1_put 7 = .ok (.aload_n 0, 1) := by decide +kernel
theorem dX1_put_8 : decode cX1_put 8 = .ok (.getfield 36, 3) := by decide +kernel
theorem dX1_put_11 : decode cX1_put 11 = .ok (.getfield 74, 3) := by decide +kernel
theorem dX1_put_14 : decode cX1_put 14 = .ok (.if_icmp .ge 57, 3) := by decide +kernel
theorem dX1_put_17 : decode cX1_put 17 = .ok (.iload_n 3, 1) := by decide +kernel
theorem dX1_put_18 : decode cX1_put 18 = .ok (.aload_n 0, 1) := by decide +kernel
theorem dX1_put_19 : decode cX1_put 19 = .ok (.getfield 15, 3) := by decide +kernel
theorem dX1_put_22 : decode cX1_put 22 = .ok (.if_icmp .ge 49, 3) := by decide +kernel
theorem dX1_put_25 : decode cX1_put 25 = .ok (.aload_n 0, 1) := by decide +kernel
theorem dX1_put_26 : decode cX1_put 26 = .ok (.getfield 36, 3) := by decide +kernel
theorem dX1_put_29 : decode cX1_put 29 = .ok (.getfield 81, 3) := by decide +kernel
theorem dX1_put_32 : decode cX1_put 32 = .ok (.iload 4, 2) := by decide +kernel
theorem dX1_put_34 : decode cX1_put 34 = .ok (.iaload, 1) := by decide +kernel
theorem dX1_put_35 : decode cX1_put 35 = .ok (.iconst 1, 1) := by decide +kernel
theorem dX1_put_36 : decode cX1_put 36 = .ok (.if_icmp .ne 29, 3) := by decide +kernel
theorem dX1_put_39 : decode cX1_put 39 = .ok (.aload_n 0, 1) := by decide +kernel
theorem dX1_put_40 : decode cX1_put 40 = .ok (.iload_n 1, 1) := by decide +kernel
theorem dX1_put_41 : decode cX1_put 41 = .ok (.aload_n 0, 1) := by decide +kernel
theorem dX1_put_42 : decode cX1_put 42 = .ok (.getfield 26, 3) := by decide +kernel
theorem dX1_put_45 : decode cX1_put 45 = .ok (.iload_n 1, 1) := by decide +kernel
theorem dX1_put_46 : decode cX1_put 46 = .ok (.iaload, 1) := by decide +kernel
theorem dX1_put_47 : decode cX1_put 47 = .ok (.iload 4, 2) := by decide +kernel
theorem dX1_put_49 : decode cX1_put 49 = .ok (.invokevirtual 44, 3) := by decide +kernel
theorem dX1_put_52 : decode cX1_put 52 = .ok (.iload_n 3, 1) := by decide +kernel
theorem dX1_put_53 : decode cX1_put 53 = .ok (.aload_n 0, 1) := by decide +kernel
theorem dX1_put_54 : decode cX1_put 54 = .ok (.iload_n 1, 1) := by decide +kernel
theorem dX1_put_55 : decode cX1_put 55 = .ok (.iconst 1, 1) := by decide +kernel
theorem dX1_put_56 : decode cX1_put 56 = .ok (.iadd, 1) := by decide +kernel
theorem dX1_put_57 : decode cX1_put 57 = .ok (.iload 4, 2) := by decide +kernel
theorem dX1_put_59 : decode cX1_put 59 = .ok (.iload_n 2, 1) := by decide +kernel
theorem dX1_put_60 : decode cX1_put 60 = .ok (.invokevirtual 116, 3) := by decide +kernel
theorem dX1_put_63 : decode cX1_put 63 = .ok (.iadd, 1) := by decide +kernel
theorem dX1_put_64 : decode cX1_put 64 = .ok (.istore_n 3, 1) := by decide +kernel
theorem dX1_put_65 : decode cX1_put 65 = .ok (.iinc 4 1, 3) := by decide +kernel
theorem dX1_put_68 : decode cX1_put 68 = .ok (.goto (-63), 3) := by decide +kernel
theorem dX1_put_71 : decode cX1_put 71 = .ok (.iload_n 3, 1) := by decide +kernel
theorem dX1_put_72 : decode cX1_put 72 = .ok (.ireturn, 1) := by decide +kernel
theorem dX1_leastEnd_0 : decode cX1_leastEnd 0 = .ok (.iload_n 1, 1) := by decide +kernel
theorem dX1_leastEnd_1 : decode cX1_leastEnd 1 = .ok (.bipush 64, 2) := by decide +kernel
theorem dX1_leastEnd_3 : decode cX1_leastEnd 3 = .ok (.imul, 1) := by decide +kernel
theorem dX1_leastEnd_4 : decode cX1_leastEnd 4 = .ok (.iload_n 2, 1) := by decide +kernel
theorem dX1_leastEnd_5 : decode cX1_leastEnd 5 = .ok (.bipush 8, 2) := by decide +kernel
theorem dX1_leastEnd_7 : decode cX1_leastEnd 7 = .ok (.imul, 1) := by decide +kernel
theorem dX1_leastEnd_8 : decode cX1_leastEnd 8 = .ok (.iadd, 1) := by decide +kernel
theorem dX1_leastEnd_9 : decode cX1_leastEnd 9 = .ok (.istore 4, 2) := by decide +kernel
theorem dX1_leastEnd_11 : decode cX1_leastEnd 11 = .ok (.aload_n 0, 1) := by decide +kernel
theorem dX1_leastEnd_12 : decode cX1_leastEnd 12 = .ok (.getfield 32, 3) := by decide +kernel
theorem dX1_leastEnd_15 : decode cX1_leastEnd 15 = .ok (.getfield 51, 3) := by decide +kernel
theorem dX1_leastEnd_18 : decode cX1_leastEnd 18 = .ok (.istore 5, 2) := by decide +kernel
theorem dX1_leastEnd_20 : decode cX1_leastEnd 20 = .ok (.ldc 120, 2) := by decide +kernel
theorem dX1_leastEnd_22 : decode cX1_leastEnd 22 = .ok (.istore 6, 2) := by decide +kernel
theorem dX1_leastEnd_24 : decode cX1_leastEnd 24 = .ok (.iconst 0, 1) := by decide +kernel
theorem dX1_leastEnd_25 : decode cX1_leastEnd 25 = .ok (.istore 7, 2) := by decide +kernel
theorem dX1_leastEnd_27 : decode cX1_leastEnd 27 = .ok (.iload 7, 2) := by decide +kernel
theorem dX1_leastEnd_29 : decode cX1_leastEnd 29 = .ok (.aload_n 0, 1) := by decide +kernel
theorem dX1_leastEnd_30 : decode cX1_leastEnd 30 = .ok (.getfield 36, 3) := by decide +kernel
theorem dX1_leastEnd_33 : decode cX1_leastEnd 33 = .ok (.getfield 48, 3) := by decide +kernel
theorem dX1_leastEnd_36 : decode cX1_leastEnd 36 = .ok (.if_icmp .gt 63, 3) := by decide +kernel
theorem dX1_leastEnd_39 : decode cX1_leastEnd 39 = .ok (.aload_n 0, 1) := by decide +kernel
theorem dX1_leastEnd_40 : decode cX1_leastEnd 40 = .ok (.getfield 36, 3) := by decide +kernel
theorem dX1_leastEnd_43 : decode cX1_leastEnd 43 = .ok (.getfield 48, 3) := by decide +kernel
theorem dX1_leastEnd_46 : decode cX1_leastEnd 46 = .ok (.iload 7, 2) := by decide +kernel
theorem dX1_leastEnd_48 : decode cX1_leastEnd 48 = .ok (.isub, 1) := by decide +kernel
theorem dX1_leastEnd_49 : decode cX1_leastEnd 49 = .ok (.iload_n 3, 1) := by decide +kernel
theorem dX1_leastEnd_50 : decode cX1_leastEnd 50 = .ok (.isub, 1) := by decide +kernel
theorem dX1_leastEnd_51 : decode cX1_leastEnd 51 = .ok (.istore 8, 2) := by decide +kernel
theorem dX1_leastEnd_53 : decode cX1_leastEnd 53 = .ok (.aload_n 0, 1) := by decide +kernel
theorem dX1_leastEnd_54 : decode cX1_leastEnd 54 = .ok (.getfield 29, 3) := by decide +kernel
theorem dX1_leastEnd_57 : decode cX1_leastEnd 57 = .ok (.iload 4, 2) := by decide +kernel
theorem dX1_leastEnd_59 : decode cX1_leastEnd 59 = .ok (.iload 7, 2) := by decide +kernel
theorem dX1_leastEnd_61 : decode cX1_leastEnd 61 = .ok (.iadd, 1) := by decide +kernel
theorem dX1_leastEnd_62 : decode cX1_leastEnd 62 = .ok (.iaload, 1) := by decide +kernel
theorem dX1_leastEnd_63 : decode cX1_leastEnd 63 = .ok (.iload 8, 2) := by decide +kernel
theorem dX1_leastEnd_65 : decode cX1_leastEnd 65 = .ok (.ifCond .ge 9, 3) := by decide +kernel
theorem dX1_leastEnd_68 : decode cX1_leastEnd 68 = .ok (.iload 8, 2) := by decide +kernel
theorem dX1_leastEnd_70 : decode cX1_leastEnd 70 = .ok (.ineg, 1) := by decide +kernel
theorem dX1_leastEnd_71 : decode cX1_leastEnd 71 = .ok (.goto 5, 3) := by decide +kernel
theorem dX1_leastEnd_74 : decode cX1_leastEnd 74 = .ok (.iload 8, 2) := by decide +kernel
theorem dX1_leastEnd_76 : decode cX1_leastEnd 76 = .ok (.iload 5, 2) := by decide +kernel
theorem dX1_leastEnd_78 : decode cX1_leastEnd 78 = .ok (.imul, 1) := by decide +kernel
theorem dX1_leastEnd_79 : decode cX1_leastEnd 79 = .ok (.iadd, 1) := by decide +kernel
theorem dX1_leastEnd_80 : decode cX1_leastEnd 80 = .ok (.istore 9, 2) := by decide +kernel
theorem dX1_leastEnd_82 : decode cX1_leastEnd 82 = .ok (.iload 9, 2) := by decide +kernel
theorem dX1_leastEnd_84 : decode cX1_leastEnd 84 = .ok (.iload 6, 2) := by decide +kernel
theorem dX1_leastEnd_86 : decode cX1_leastEnd 86 = .ok (.if_icmp .ge 7, 3) := by decide +kernel
theorem dX1_leastEnd_89 : decode cX1_leastEnd 89 = .ok (.iload 9, 2) := by decide +kernel
theorem dX1_leastEnd_91 : decode cX1_leastEnd 91 = .ok (.istore 6, 2) := by decide +kernel
theorem dX1_leastEnd_93 : decode cX1_leastEnd 93 = .ok (.iinc 7 1, 3) := by decide +kernel
theorem dX1_leastEnd_96 : decode cX1_leastEnd 96 = .ok (.goto (-69), 3) := by decide +kernel
theorem dX1_leastEnd_99 : decode cX1_leastEnd 99 = .ok (.iload 6, 2) := by decide +kernel
theorem dX1_leastEnd_101 : decode cX1_leastEnd 101 = .ok (.ireturn, 1) := by decide +kernel
theorem dX2_init_0 : decode cX2_init 0 = .ok (.aload_n 0, 1) := by decide +kernel
theorem dX2_init_1 : decode cX2_init 1 = .ok (.invokespecial 3, 3) := by decide +kernel
theorem dX2_init_4 : decode cX2_init 4 = .ok (.aload_n 0, 1) := by decide +kernel
theorem dX2_init_5 : decode cX2_init 5 = .ok (.bipush 7, 2) := by decide +kernel
theorem dX2_init_7 : decode cX2_init 7 = .ok (.newarray .int, 2) := by decide +kernel
theorem dX2_init_9 : decode cX2_init 9 = .ok (.putfield 9, 3) := by decide +kernel
theorem dX2_init_12 : decode cX2_init 12 = .ok (.aload_n 0, 1) := by decide +kernel
theorem dX2_init_13 : decode cX2_init 13 = .ok (.bipush 7, 2) := by decide +kernel
theorem dX2_init_15 : decode cX2_init 15 = .ok (.newarray .int, 2) := by decide +kernel
theorem dX2_init_17 : decode cX2_init 17 = .ok (.putfield 15, 3) := by decide +kernel
theorem dX2_init_20 : decode cX2_init 20 = .ok (.aload_n 0, 1) := by decide +kernel
theorem dX2_init_21 : decode cX2_init 21 = .ok (.bipush 6, 2) := by decide +kernel
theorem dX2_init_23 : decode cX2_init 23 = .ok (.newarray .int, 2) := by decide +kernel
theorem dX2_init_25 : decode cX2_init 25 = .ok (.putfield 18, 3) := by decide +kernel
theorem dX2_init_28 : decode cX2_init 28 = .ok (.aload_n 0, 1) := by decide +kernel
theorem dX2_init_29 : decode cX2_init 29 = .ok (.aload_n 1, 1) := by decide +kernel
theorem dX2_init_30 : decode cX2_init 30 = .ok (.putfield 21, 3) := by decide +kernel
theorem dX2_init_33 : decode cX2_init 33 = .ok (.aload_n 0, 1) := by decide +kernel
theorem dX2_init_34 : decode cX2_init 34 = .ok (.aload_n 2, 1) := by decide +kernel
theorem dX2_init_35 : decode cX2_init 35 = .ok (.putfield 25, 3) := by decide +kernel
theorem dX2_init_38 : decode cX2_init 38 = .ok (.aload_n 0, 1) := by decide +kernel
theorem dX2_init_39 : decode cX2_init 39 = .ok (.new 29, 3) := by decide +kernel
theorem dX2_init_42 : decode cX2_init 42 = .ok (.dup, 1) := by decide +kernel
theorem dX2_init_43 : decode cX2_init 43 = .ok (.aload_n 1, 1) := by decide +kernel
theorem dX2_init_44 : decode cX2_init 44 = .ok (.bipush 6, 2) := by decide +kernel
theorem dX2_init_46 : decode cX2_init 46 = .ok (.bipush 120, 2) := by decide +kernel
theorem dX2_init_48 : decode cX2_init 48 = .ok (.invokespecial 31, 3) := by decide +kernel
theorem dX2_init_51 : decode cX2_init 51 = .ok (.putfield 34, 3) := by decide +kernel
theorem dX2_init_54 : decode cX2_init 54 = .ok (.aload_n 0, 1) := by decide +kernel
theorem dX2_init_55 : decode cX2_init 55 = .ok (.invokevirtual 38, 3) := by decide +kernel
theorem dX2_init_58 : decode cX2_init 58 = .ok (.return_, 1) := by decide +kernel
theorem dX2_forget_0 : decode cX2_forget 0 = .ok (.iconst 0, 1) := by decide +kernel
theorem dX2_forget_1 : decode cX2_forget 1 = .ok (.istore_n 1, 1) := by decide +kernel
theorem dX2_forget_2 : decode cX2_forget 2 = .ok (.iload_n 1, 1) := by decide +kernel
theorem dX2_forget_3 : decode cX2_forget 3 = .ok (.bipush 6, 2) := by decide +kernel
theorem dX2_forget_5 : decode cX2_forget 5 = .ok (.if_icmp .gt 17, 3) := by decide +kernel
theorem dX2_forget_8 : decode cX2_forget 8 = .ok (.aload_n 0, 1) := by decide +kernel
theorem dX2_forget_9 : decode cX2_forget 9 = .ok (.getfield 9, 3) := by decide +kernel
theorem dX2_forget_12 : decode cX2_forget 12 = .ok (.iload_n 1, 1) := by decide +kernel
theorem dX2_forget_13 : decode cX2_forget 13 = .ok (.bipush (-2), 2) := by decide +kernel
theorem dX2_forget_15 : decode cX2_forget 15 = .ok (.iastore, 1) := by decide +kernel
theorem dX2_forget_16 : decode cX2_forget 16 = .ok (.iinc 1 1, 3) := by decide +kernel
theorem dX2_forget_19 : decode cX2_forget 19 = .ok (.goto (-17), 3) := by decide +kernel
