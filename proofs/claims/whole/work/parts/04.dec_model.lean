theorem dX8_init_0 : decode cX8_init 0 = .ok (.aload_n 0, 1) := by decide +kernel
theorem dX8_init_1 : decode cX8_init 1 = .ok (.invokespecial 1, 3) := by decide +kernel
theorem dX8_init_4 : decode cX8_init 4 = .ok (.aload_n 0, 1) := by decide +kernel
theorem dX8_init_5 : decode cX8_init 5 = .ok (.sipush 1032, 3) := by decide +kernel
theorem dX8_init_8 : decode cX8_init 8 = .ok (.newarray .int, 2) := by decide +kernel
theorem dX8_init_10 : decode cX8_init 10 = .ok (.putfield 9, 3) := by decide +kernel
theorem dX8_init_13 : decode cX8_init 13 = .ok (.aload_n 0, 1) := by decide +kernel
theorem dX8_init_14 : decode cX8_init 14 = .ok (.sipush 8256, 3) := by decide +kernel
theorem dX8_init_17 : decode cX8_init 17 = .ok (.newarray .int, 2) := by decide +kernel
theorem dX8_init_19 : decode cX8_init 19 = .ok (.putfield 13, 3) := by decide +kernel
theorem dX8_init_22 : decode cX8_init 22 = .ok (.aload_n 0, 1) := by decide +kernel
theorem dX8_init_23 : decode cX8_init 23 = .ok (.sipush 1032, 3) := by decide +kernel
theorem dX8_init_26 : decode cX8_init 26 = .ok (.newarray .int, 2) := by decide +kernel
theorem dX8_init_28 : decode cX8_init 28 = .ok (.putfield 16, 3) := by decide +kernel
theorem dX8_init_31 : decode cX8_init 31 = .ok (.aload_n 0, 1) := by decide +kernel
theorem dX8_init_32 : decode cX8_init 32 = .ok (.iconst (-1), 1) := by decide +kernel
theorem dX8_init_33 : decode cX8_init 33 = .ok (.putfield 19, 3) := by decide +kernel
theorem dX8_init_36 : decode cX8_init 36 = .ok (.aload_n 0, 1) := by decide +kernel
theorem dX8_init_37 : decode cX8_init 37 = .ok (.bipush 40, 2) := by decide +kernel
theorem dX8_init_39 : decode cX8_init 39 = .ok (.newarray .char, 2) := by decide +kernel
theorem dX8_init_41 : decode cX8_init 41 = .ok (.putfield 23, 3) := by decide +kernel
theorem dX8_init_44 : decode cX8_init 44 = .ok (.aload_n 0, 1) := by decide +kernel
theorem dX8_init_45 : decode cX8_init 45 = .ok (.iconst 4, 1) := by decide +kernel
theorem dX8_init_46 : decode cX8_init 46 = .ok (.newarray .int, 2) := by decide +kernel
theorem dX8_init_48 : decode cX8_init 48 = .ok (.putfield 27, 3) := by decide +kernel
theorem dX8_init_51 : decode cX8_init 51 = .ok (.aload_n 0, 1) := by decide +kernel
theorem dX8_init_52 : decode cX8_init 52 = .ok (.iconst 4, 1) := by decide +kernel
theorem dX8_init_53 : decode cX8_init 53 = .ok (.newarray .int, 2) := by decide +kernel
theorem dX8_init_55 : decode cX8_init 55 = .ok (.putfield 30, 3) := by decide +kernel
theorem dX8_init_58 : decode cX8_init 58 = .ok (.aload_n 0, 1) := by decide +kernel
theorem dX8_init_59 : decode cX8_init 59 = .ok (.bipush 12, 2) := by decide +kernel
theorem dX8_init_61 : decode cX8_init 61 = .ok (.newarray .int, 2) := by decide +kernel
theorem dX8_init_63 : decode cX8_init 63 = .ok (.putfield 33, 3) := by decide +kernel
theorem dX8_init_66 : decode cX8_init 66 = .ok (.aload_n 0, 1) := by decide +kernel
theorem dX8_init_67 : decode cX8_init 67 = .ok (.bipush 8, 2) := by decide +kernel
theorem dX8_init_69 : decode cX8_init 69 = .ok (.newarray .int, 2) := by decide +kernel
theorem dX8_init_71 : decode cX8_init 71 = .ok (.putfield 36, 3) := by decide +kernel
theorem dX8_init_74 : decode cX8_init 74 = .ok (.aload_n 0, 1) := by decide +kernel
theorem dX8_init_75 : decode cX8_init 75 = .ok (.bipush 24, 2) := by decide +kernel
theorem dX8_init_77 : decode cX8_init 77 = .ok (.newarray .int, 2) := by decide +kernel
theorem dX8_init_79 : decode cX8_init 79 = .ok (.putfield 39, 3) := by decide +kernel
theorem dX8_init_82 : decode cX8_init 82 = .ok (.aload_n 0, 1) := by decide +kernel
theorem dX8_init_83 : decode cX8_init 83 = .ok (.getfield 9, 3) := by decide +kernel
theorem dX8_init_86 : decode cX8_init 86 = .ok (.iconst 5, 1) := by decide +kernel
theorem dX8_init_87 : decode cX8_init 87 = .ok (.sipush 850, 3) := by decide +kernel
theorem dX8_init_90 : decode cX8_init 90 = .ok (.iastore, 1) := by decide +kernel
theorem dX8_init_91 : decode cX8_init 91 = .ok (.aload_n 0, 1) := by decide +kernel
theorem dX8_init_92 : decode cX8_init 92 = .ok (.getfield 9, 3) := by decide +kernel
theorem dX8_init_95 : decode cX8_init 95 = .ok (.bipush 6, 2) := by decide +kernel
theorem dX8_init_97 : decode cX8_init 97 = .ok (.sipush 850, 3) := by decide +kernel
theorem dX8_init_100 : decode cX8_init 100 = .ok (.iastore, 1) := by decide +kernel
theorem dX8_init_101 : decode cX8_init 101 = .ok (.aload_n 0, 1) := by decide +kernel
theorem dX8_init_102 : decode cX8_init 102 = .ok (.getfield 9, 3) := by decide +kernel
theorem dX8_init_105 : decode cX8_init 105 = .ok (.bipush 7, 2) := by decide +kernel
theorem dX8_init_107 : decode cX8_init 107 = .ok (.sipush 750, 3) := by decide +kernel
theorem dX8_init_110 : decode cX8_init 110 = .ok (.iastore, 1) := by decide +kernel
theorem dX8_init_111 : decode cX8_init 111 = .ok (.return_, 1) := by decide +kernel
theorem dX8_thrown_0 : decode cX8_thrown 0 = .ok (.aload_n 0, 1) := by decide +kernel
theorem dX8_thrown_1 : decode cX8_thrown 1 = .ok (.getfield 42, 3) := by decide +kernel
theorem dX8_thrown_4 : decode cX8_thrown 4 = .ok (.ireturn, 1) := by decide +kernel
theorem dX8_isIn_0 : decode cX8_isIn 0 = .ok (.iload_n 0, 1) := by decide +kernel
theorem dX8_isIn_1 : decode cX8_isIn 1 = .ok (.iload_n 1, 1) := by decide +kernel
theorem dX8_isIn_2 : decode cX8_isIn 2 = .ok (.if_icmp .lt 12, 3) := by decide +kernel
theorem dX8_isIn_5 : decode cX8_isIn 5 = .ok (.iload_n 0, 1) := by decide +kernel
theorem dX8_isIn_6 : decode cX8_isIn 6 = .ok (.iload_n 2, 1) := by decide +kernel
theorem dX8_isIn_7 : decode cX8_isIn 7 = .ok (.if_icmp .gt 7, 3) := by decide +kernel
theorem dX8_isIn_10 : decode cX8_isIn 10 = .ok (.iconst 1, 1) := by decide +kernel
theorem dX8_isIn_11 : decode cX8_isIn 11 = .ok (.goto 4, 3) := by decide +kernel
theorem dX8_isIn_14 : decode cX8_isIn 14 = .ok (.iconst 0, 1) := by decide +kernel
theorem dX8_isIn_15 : decode cX8_isIn 15 = .ok (.ireturn, 1) := by decide +kernel
theorem dX8_fail_0 : decode cX8_fail 0 = .ok (.aload_n 0, 1) := by decide +kernel
theorem dX8_fail_1 : decode cX8_fail 1 = .ok (.iload_n 1, 1) := by decide +kernel
theorem dX8_fail_2 : decode cX8_fail 2 = .ok (.putfield 42, 3) := by decide +kernel
theorem dX8_fail_5 : decode cX8_fail 5 = .ok (.iconst 0, 1) := by decide +kernel
theorem dX8_fail_6 : decode cX8_fail 6 = .ok (.ireturn, 1) := by decide +kernel
theorem dX8_refuse_0 : decode cX8_refuse 0 = .ok (.aload_n 0, 1) := by decide +kernel
theorem dX8_refuse_1 : decode cX8_refuse 1 = .ok (.iload_n 2, 1) := by decide +kernel
theorem dX8_refuse_2 : decode cX8_refuse 2 = .ok (.putfield 45, 3) := by decide +kernel
theorem dX8_refuse_5 : decode cX8_refuse 5 = .ok (.aload_n 0, 1) := by decide +kernel
theorem dX8_refuse_6 : decode cX8_refuse 6 = .ok (.iload_n 1, 1) := by decide +kernel
theorem dX8_refuse_7 : decode cX8_refuse 7 = .ok (.invokevirtual 48, 3) := by decide +kernel
theorem dX8_refuse_10 : decode cX8_refuse 10 = .ok (.ireturn, 1) := by decide +kernel
theorem dX8_remember_0 : decode cX8_remember 0 = .ok (.aload_n 0, 1) := by decide +kernel
theorem dX8_remember_1 : decode cX8_remember 1 = .ok (.getfield 52, 3) := by decide +kernel
theorem dX8_remember_4 : decode cX8_remember 4 = .ok (.bipush 8, 2) := by decide +kernel
theorem dX8_remember_6 : decode cX8_remember 6 = .ok (.if_icmp .ne 49, 3) := by decide +kernel
theorem dX8_remember_9 : decode cX8_remember 9 = .ok (.aload_n 0, 1) := by decide +kernel
theorem dX8_remember_10 : decode cX8_remember 10 = .ok (.dup, 1) := by decide +kernel
theorem dX8_remember_11 : decode cX8_remember 11 = .ok (.getfield 52, 3) := by decide +kernel
theorem dX8_remember_14 : decode cX8_remember 14 = .ok (.iconst 1, 1) := by decide +kernel
theorem dX8_remember_15 : decode cX8_remember 15 = .ok (.isub, 1) := by decide +kernel
theorem dX8_remember_16 : decode cX8_remember 16 = .ok (.putfield 52, 3) := by decide +kernel
theorem dX8_remember_19 : decode cX8_remember 19 = .ok (.iconst 0, 1) := by decide +kernel
theorem dX8_remember_20 : decode cX8_remember 20 = .ok (.istore_n 1, 1) := by decide +kernel
theorem dX8_remember_21 : decode cX8_remember 21 = .ok (.iload_n 1, 1) := by decide +kernel
theorem dX8_remember_22 : decode cX8_remember 22 = .ok (.sipush 1032, 3) := by decide +kernel
theorem dX8_remember_25 : decode cX8_remember 25 = .ok (.aload_n 0, 1) := by decide +kernel
theorem dX8_remember_26 : decode cX8_remember 26 = .ok (.getfield 52, 3) := by decide +kernel
theorem dX8_remember_29 : decode cX8_remember 29 = .ok (.imul, 1) := by decide +kernel
theorem dX8_remember_30 : decode cX8_remember 30 = .ok (.if_icmp .ge 25, 3) := by decide +kernel
theorem dX8_remember_33 : decode cX8_remember 33 = .ok (.aload_n 0, 1) := by decide +kernel
theorem dX8_remember_34 : decode cX8_remember 34 = .ok (.getfield 13, 3) := by decide +kernel
theorem dX8_remember_37 : decode cX8_remember 37 = .ok (.iload_n 1, 1) := by decide +kernel
theorem dX8_remember_38 : decode cX8_remember 38 = .ok (.aload_n 0, 1) := by decide +kernel
theorem dX8_remember_39 : decode cX8_remember 39 = .ok (.getfield 13, 3) := by decide +kernel
theorem dX8_remember_42 : decode cX8_remember 42 = .ok (.iload_n 1, 1) := by decide +kernel
theorem dX8_remember_43 : decode cX8_remember 43 = .ok (.sipush 1032, 3) := by decide +kernel
theorem dX8_remember_46 : decode cX8_remember 46 = .ok (.iadd, 1) := by decide +kernel
theorem dX8_remember_47 : decode cX8_remember 47 = .ok (.iaload, 1) := by decide +kernel
theorem dX8_remember_48 : decode cX8_remember 48 = .ok (.iastore, 1) := by decide +kernel
theorem dX8_remember_49 : decode cX8_remember 49 = .ok (.iinc 1 1, 3) := by decide +kernel
theorem dX8_remember_52 : decode cX8_remember 52 = .ok (.goto (-31), 3) := by decide +kernel
theorem dX8_remember_55 : decode cX8_remember 55 = .ok (.iconst 0, 1) := by decide +kernel
theorem dX8_remember_56 : decode cX8_remember 56 = .ok (.istore_n 1, 1) := by decide +kernel
theorem dX8_remember_57 : decode cX8_remember 57 = .ok (.iload_n 1, 1) := by decide +kernel
theorem dX8_remember_58 : decode cX8_remember 58 = .ok (.sipush 1032, 3) := by decide +kernel
theorem dX8_remember_61 : decode cX8_remember 61 = .ok (.if_icmp .ge 30, 3) := by decide +kernel
theorem dX8_remember_64 : decode cX8_remember 64 = .ok (.aload_n 0, 1) := by decide +kernel
theorem dX8_remember_65 : decode cX8_remember 65 = .ok (.getfield 13, 3) := by decide +kernel
theorem dX8_remember_68 : decode cX8_remember 68 = .ok (.sipush 1032, 3) := by decide +kernel
theorem dX8_remember_71 : decode cX8_remember 71 = .ok (.aload_n 0, 1) := by decide +kernel
theorem dX8_remember_72 : decode cX8_remember 72 = .ok (.getfield 52, 3) := by decide +kernel
theorem dX8_remember_75 : decode cX8_remember 75 = .ok (.imul, 1) := by decide +kernel
theorem dX8_remember_76 : decode cX8_remember 76 = .ok (.iload_n 1, 1) := by decide +kernel
theorem dX8_remember_77 : decode cX8_remember 77 = .ok (.iadd, 1) := by decide +kernel
theorem dX8_remember_78 : decode cX8_remember 78 = .ok (.aload_n 0, 1) := by decide +kernel
theorem dX8_remember_79 : decode cX8_remember 79 = .ok (.getfield 9, 3) := by decide +kernel
theorem dX8_remember_82 : decode cX8_remember 82 = .ok (.iload_n 1, 1) := by decide +kernel
theorem dX8_remember_83 : decode cX8_remember 83 = .ok (.iaload, 1) := by decide +kernel
theorem dX8_remember_84 : decode cX8_remember 84 = .ok (.iastore, 1) := by decide +kernel
theorem dX8_remember_85 : decode cX8_remember 85 = .ok (.iinc 1 1, 3) := by decide +kernel
theorem dX8_remember_88 : decode cX8_remember 88 = .ok (.goto (-31), 3) := by decide +kernel
theorem dX8_remember_91 : decode cX8_remember 91 = .ok (.aload_n 0, 1) := by decide +kernel
theorem dX8_remember_92 : decode cX8_remember 92 = .ok (.dup, 1) := by decide +kernel
theorem dX8_remember_93 : decode cX8_remember 93 = .ok (.getfield 52, 3) := by decide +kernel
theorem dX8_remember_96 : decode cX8_remember 96 = .ok (.iconst 1, 1) := by decide +kernel
theorem dX8_remember_97 : decode cX8_remember 97 = .ok (.iadd, 1) := by decide +kernel
theorem dX8_remember_98 : decode cX8_remember 98 = .ok (.putfield 52, 3) := by decide +kernel
theorem dX8_remember_101 : decode cX8_remember 101 = .ok (.return_, 1) := by decide +kernel
theorem dX8_l_0 : decode cX8_l 0 = .ok (.aload_n 0, 1) := by decide +kernel
theorem dX8_l_1 : decode cX8_l 1 = .ok (.getfield 9, 3) := by decide +kernel
theorem dX8_l_4 : decode cX8_l 4 = .ok (.bipush 8, 2) := by decide +kernel
theorem dX8_l_6 : decode cX8_l 6 = .ok (.bipush 25, 2) := by decide +kernel
theorem dX8_l_8 : decode cX8_l 8 = .ok (.iload_n 1, 1) := by decide +kernel
theorem dX8_l_9 : decode cX8_l 9 = .ok (.imul, 1) := by decide +kernel
theorem dX8_l_10 : decode cX8_l 10 = .ok (.iadd, 1) := by decide +kernel
theorem dX8_l_11 : decode cX8_l 11 = .ok (.iload_n 2, 1) := by decide +kernel
theorem dX8_l_12 : decode cX8_l 12 = .ok (.iadd, 1) := by decide +kernel
theorem dX8_l_13 : decode cX8_l 13 = .ok (.iaload, 1) := by decide +kernel
theorem dX8_l_14 : decode cX8_l 14 = .ok (.ireturn, 1) := by decide +kernel
theorem dX8_setL_0 : decode cX8_setL 0 = .ok (.aload_n 0, 1) := by decide +kernel
theorem dX8_setL_1 : decode cX8_setL 1 = .ok (.getfield 9, 3) := by decide +kernel
theorem dX8_setL_4 : decode cX8_setL 4 = .ok (.bipush 8, 2) := by decide +kernel
theorem dX8_setL_6 : decode cX8_setL 6 = .ok (.bipush 25, 2) := by decide +kernel
theorem dX8_setL_8 : decode cX8_setL 8 = .ok (.iload_n 1, 1) := by decide +kernel
theorem dX8_setL_9 : decode cX8_setL 9 = .ok (.imul, 1) := by decide +kernel
theorem dX8_setL_10 : decode cX8_setL 10 = .ok (.iadd, 1) := by decide +kernel
theorem dX8_setL_11 : decode cX8_setL 11 = .ok (.iload_n 2, 1) := by decide +kernel
theorem dX8_setL_12 : decode cX8_setL 12 = .ok (.iadd, 1) := by decide +kernel
theorem dX8_setL_13 : decode cX8_setL 13 = .ok (.iload_n 3, 1) := by decide +kernel
theorem dX8_setL_14 : decode cX8_setL 14 = .ok (.iastore, 1) := by decide +kernel
theorem dX8_setL_15 : decode cX8_setL 15 = .ok (.return_, 1) := by decide +kernel
theorem dX8_isLot_0 : decode cX8_isLot 0 = .ok (.iload_n 1, 1) := by decide +kernel
theorem dX8_isLot_1 : decode cX8_isLot 1 = .ok (.iconst 0, 1) := by decide +kernel
theorem dX8_isLot_2 : decode cX8_isLot 2 = .ok (.aload_n 0, 1) := by decide +kernel
theorem dX8_isLot_3 : decode cX8_isLot 3 = .ok (.getfield 9, 3) := by decide +kernel
theorem dX8_isLot_6 : decode cX8_isLot 6 = .ok (.iconst 0, 1) := by decide +kernel
theorem dX8_isLot_7 : decode cX8_isLot 7 = .ok (.iaload, 1) := by decide +kernel
theorem dX8_isLot_8 : decode cX8_isLot 8 = .ok (.iconst 1, 1) := by decide +kernel
theorem dX8_isLot_9 : decode cX8_isLot 9 = .ok (.isub, 1) := by decide +kernel
theorem dX8_isLot_10 : decode cX8_isLot 10 = .ok (.invokestatic 55, 3) := by decide +kernel
theorem dX8_isLot_13 : decode cX8_isLot 13 = .ok (.ireturn, 1) := by decide +kernel
theorem dX8_h_0 : decode cX8_h 0 = .ok (.aload_n 0, 1) := by decide +kernel
theorem dX8_h_1 : decode cX8_h 1 = .ok (.getfield 9, 3) := by decide +kernel
theorem dX8_h_4 : decode cX8_h 4 = .ok (.sipush 608, 3) := by decide +kernel
theorem dX8_h_7 : decode cX8_h 7 = .ok (.iconst 4, 1) := by decide +kernel
theorem dX8_h_8 : decode cX8_h 8 = .ok (.iload_n 1, 1) := by decide +kernel
theorem dX8_h_9 : decode cX8_h 9 = .ok (.imul, 1) := by decide +kernel
theorem dX8_h_10 : decode cX8_h 10 = .ok (.iadd, 1) := by decide +kernel
theorem dX8_h_11 : decode cX8_h 11 = .ok (.iload_n 2, 1) := by decide +kernel
theorem dX8_h_12 : decode cX8_h 12 = .ok (.iadd, 1) := by decide +kernel
theorem dX8_h_13 : decode cX8_h 13 = .ok (.iaload, 1) := by decide +kernel
theorem dX8_h_14 : decode cX8_h 14 = .ok (.ireturn, 1) := by decide +kernel
theorem dX8_comes_0 : decode cX8_comes 0 = .ok (.aload_n 0, 1) := by decide +kernel
theorem dX8_comes_1 : decode cX8_comes 1 = .ok (.getfield 9, 3) := by decide +kernel
theorem dX8_comes_4 : decode cX8_comes 4 = .ok (.iconst 0, 1) := by decide +kernel
theorem dX8_comes_5 : decode cX8_comes 5 = .ok (.iaload, 1) := by decide +kernel
theorem dX8_comes_6 : decode cX8_comes 6 = .ok (.istore 4, 2) := by decide +kernel
theorem dX8_comes_8 : decode cX8_comes 8 = .ok (.iconst 0, 1) := by decide +kernel
theorem dX8_comes_9 : decode cX8_comes 9 = .ok (.istore 5, 2) := by decide +kernel
theorem dX8_comes_11 : decode cX8_comes 11 = .ok (.iload 5, 2) := by decide +kernel
theorem dX8_comes_13 : decode cX8_comes 13 = .ok (.bipush 25, 2) := by decide +kernel
theorem dX8_comes_15 : decode cX8_comes 15 = .ok (.if_icmp .ge 18, 3) := by decide +kernel
theorem dX8_comes_18 : decode cX8_comes 18 = .ok (.aload_n 0, 1) := by decide +kernel
theorem dX8_comes_19 : decode cX8_comes 19 = .ok (.iload 4, 2) := by decide +kernel
theorem dX8_comes_21 : decode cX8_comes 21 = .ok (.iload 5, 2) := by decide +kernel
theorem dX8_comes_23 : decode cX8_comes 23 = .ok (.iconst 0, 1) := by decide +kernel
theorem dX8_comes_24 : decode cX8_comes 24 = .ok (.invokevirtual 59, 3) := by decide +kernel
theorem dX8_comes_27 : decode cX8_comes 27 = .ok (.iinc 5 1, 3) := by decide +kernel
theorem dX8_comes_30 : decode cX8_comes 30 = .ok (.goto (-19), 3) := by decide +kernel
theorem dX8_comes_33 : decode cX8_comes 33 = .ok (.aload_n 0, 1) := by decide +kernel
theorem dX8_comes_34 : decode cX8_comes 34 = .ok (.iload 4, 2) := by decide +kernel
theorem dX8_comes_36 : decode cX8_comes 36 = .ok (.iconst 0, 1) := by decide +kernel
theorem dX8_comes_37 : decode cX8_comes 37 = .ok (.iload_n 1, 1) := by decide +kernel
theorem dX8_comes_38 : decode cX8_comes 38 = .ok (.invokevirtual 59, 3) := by decide +kernel
theorem dX8_comes_41 : decode cX8_comes 41 = .ok (.aload_n 0, 1) := by decide +kernel
theorem dX8_comes_42 : decode cX8_comes 42 = .ok (.iload 4, 2) := by decide +kernel
theorem dX8_comes_44 : decode cX8_comes 44 = .ok (.iconst 1, 1) := by decide +kernel
theorem dX8_comes_45 : decode cX8_comes 45 = .ok (.iload_n 1, 1) := by decide +kernel
theorem dX8_comes_46 : decode cX8_comes 46 = .ok (.invokevirtual 59, 3) := by decide +kernel
theorem dX8_comes_49 : decode cX8_comes 49 = .ok (.aload_n 0, 1) := by decide +kernel
theorem dX8_comes_50 : decode cX8_comes 50 = .ok (.iload 4, 2) := by decide +kernel
theorem dX8_comes_52 : decode cX8_comes 52 = .ok (.iconst 3, 1) := by decide +kernel
theorem dX8_comes_53 : decode cX8_comes 53 = .ok (.iload_n 2, 1) := by decide +kernel
theorem dX8_comes_54 : decode cX8_comes 54 = .ok (.invokevirtual 59, 3) := by decide +kernel
theorem dX8_comes_57 : decode cX8_comes 57 = .ok (.aload_n 0, 1) := by decide +kernel
theorem dX8_comes_58 : decode cX8_comes 58 = .ok (.iload 4, 2) := by decide +kernel
theorem dX8_comes_60 : decode cX8_comes 60 = .ok (.iconst 4, 1) := by decide +kernel
theorem dX8_comes_61 : decode cX8_comes 61 = .ok (.iload_n 3, 1) := by decide +kernel
theorem dX8_comes_62 : decode cX8_comes 62 = .ok (.invokevirtual 59, 3) := by decide +kernel
theorem dX8_comes_65 : decode cX8_comes 65 = .ok (.aload_n 0, 1) := by decide +kernel
theorem dX8_comes_66 : decode cX8_comes 66 = .ok (.getfield 9, 3) := by decide +kernel
theorem dX8_comes_69 : decode cX8_comes 69 = .ok (.iconst 0, 1) := by decide +kernel
theorem dX8_comes_70 : decode cX8_comes 70 = .ok (.dup2, 1) := by decide +kernel
theorem dX8_comes_71 : decode cX8_comes 71 = .ok (.iaload, 1) := by decide +kernel
theorem dX8_comes_72 : decode cX8_comes 72 = .ok (.iconst 1, 1) := by decide +kernel
theorem dX8_comes_73 : decode cX8_comes 73 = .ok (.iadd, 1) := by decide +kernel
theorem dX8_comes_74 : decode cX8_comes 74 = .ok (.iastore, 1) := by decide +kernel
theorem dX8_comes_75 : decode cX8_comes 75 = .ok (.iload 4, 2) := by decide +kernel
theorem dX8_comes_77 : decode cX8_comes 77 = .ok (.ireturn, 1) := by decide +kernel
theorem dX8_harvest_0 : decode cX8_harvest 0 = .ok (.aload_n 0, 1) := by decide +kernel
theorem dX8_harvest_1 : decode cX8_harvest 1 = .ok (.iconst 0, 1) := by decide +kernel
theorem dX8_harvest_2 : decode cX8_harvest 2 = .ok (.putfield 42, 3) := by decide +kernel
theorem dX8_harvest_5 : decode cX8_harvest 5 = .ok (.iload_n 1, 1) := by decide +kernel
theorem dX8_harvest_6 : decode cX8_harvest 6 = .ok (.iconst 0, 1) := by decide +kernel
theorem dX8_harvest_7 : decode cX8_harvest 7 = .ok (.bipush 99, 2) := by decide +kernel
theorem dX8_harvest_9 : decode cX8_harvest 9 = .ok (.invokestatic 55, 3) := by decide +kernel
theorem dX8_harvest_12 : decode cX8_harvest 12 = .ok (.ifCond .eq 33, 3) := by decide +kernel
theorem dX8_harvest_15 : decode cX8_harvest 15 = .ok (.iload_n 2, 1) := by decide +kernel
theorem dX8_harvest_16 : decode cX8_harvest 16 = .ok (.iconst 0, 1) := by decide +kernel
theorem dX8_harvest_17 : decode cX8_harvest 17 = .ok (.iconst 4, 1) := by decide +kernel
theorem dX8_harvest_18 : decode cX8_harvest 18 = .ok (.invokestatic 55, 3) := by decide +kernel
theorem dX8_harvest_21 : decode cX8_harvest 21 = .ok (.ifCond .eq 24, 3) := by decide +kernel
theorem dX8_harvest_24 : decode cX8_harvest 24 = .ok (.iload_n 3, 1) := by decide +kernel
theorem dX8_harvest_25 : decode cX8_harvest 25 = .ok (.iconst 0, 1) := by decide +kernel
theorem dX8_harvest_26 : decode cX8_harvest 26 = .ok (.iconst 3, 1) := by decide +kernel
theorem dX8_harvest_27 : decode cX8_harvest 27 = .ok (.invokestatic 55, 3) := by decide +kernel
theorem dX8_harvest_30 : decode cX8_harvest 30 = .ok (.ifCond .eq 15, 3) := by decide +kernel
theorem dX8_harvest_33 : decode cX8_harvest 33 = .ok (.iload 4, 2) := by decide +kernel
theorem dX8_harvest_35 : decode cX8_harvest 35 = .ok (.iconst 1, 1) := by decide +kernel
theorem dX8_harvest_36 : decode cX8_harvest 36 = .ok (.sipush 9999, 3) := by decide +kernel
theorem dX8_harvest_39 : decode cX8_harvest 39 = .ok (.invokestatic 55, 3) := by decide +kernel
theorem dX8_harvest_42 : decode cX8_harvest 42 = .ok (.ifCond .ne 9, 3) := by decide +kernel
theorem dX8_harvest_45 : decode cX8_harvest 45 = .ok (.aload_n 0, 1) := by decide +kernel
theorem dX8_harvest_46 : decode cX8_harvest 46 = .ok (.iconst 1, 1) := by decide +kernel
theorem dX8_harvest_47 : decode cX8_harvest 47 = .ok (.invokevirtual 48, 3) := by decide +kernel
theorem dX8_harvest_50 : decode cX8_harvest 50 = .ok (.ireturn, 1) := by decide +kernel
theorem dX8_harvest_51 : decode cX8_harvest 51 = .ok (.aload_n 0, 1) := by decide +kernel
theorem dX8_harvest_52 : decode cX8_harvest 52 = .ok (.getfield 9, 3) := by decide +kernel
theorem dX8_harvest_55 : decode cX8_harvest 55 = .ok (.iconst 0, 1) := by decide +kernel
theorem dX8_harvest_56 : decode cX8_harvest 56 = .ok (.iaload, 1) := by decide +kernel
theorem dX8_harvest_57 : decode cX8_harvest 57 = .ok (.bipush 24, 2) := by decide +kernel
theorem dX8_harvest_59 : decode cX8_harvest 59 = .ok (.if_icmp .eq 14, 3) := by decide +kernel
theorem dX8_harvest_62 : decode cX8_harvest 62 = .ok (.aload_n 0, 1) := by decide +kernel
theorem dX8_harvest_63 : decode cX8_harvest 63 = .ok (.getfield 9, 3) := by decide +kernel
theorem dX8_harvest_66 : decode cX8_harvest 66 = .ok (.iconst 1, 1) := by decide +kernel
theorem dX8_harvest_67 : decode cX8_harvest 67 = .ok (.iaload, 1) := by decide +kernel
theorem dX8_harvest_68 : decode cX8_harvest 68 = .ok (.bipush 12, 2) := by decide +kernel
theorem dX8_harvest_70 : decode cX8_harvest 70 = .ok (.if_icmp .ne 9, 3) := by decide +kernel
theorem dX8_harvest_73 : decode cX8_harvest 73 = .ok (.aload_n 0, 1) := by decide +kernel
theorem dX8_harvest_74 : decode cX8_harvest 74 = .ok (.iconst 2, 1) := by decide +kernel
theorem dX8_harvest_75 : decode cX8_harvest 75 = .ok (.invokevirtual 48, 3) := by decide +kernel
theorem dX8_harvest_78 : decode cX8_harvest 78 = .ok (.ireturn, 1) := by decide +kernel
theorem dX8_harvest_79 : decode cX8_harvest 79 = .ok (.aload_n 0, 1) := by decide +kernel
theorem dX8_harvest_80 : decode cX8_harvest 80 = .ok (.invokevirtual 63, 3) := by decide +kernel
theorem dX8_harvest_83 : decode cX8_harvest 83 = .ok (.aload_n 0, 1) := by decide +kernel
theorem dX8_harvest_84 : decode cX8_harvest 84 = .ok (.getfield 9, 3) := by decide +kernel
theorem dX8_harvest_87 : decode cX8_harvest 87 = .ok (.iconst 1, 1) := by decide +kernel
theorem dX8_harvest_88 : decode cX8_harvest 88 = .ok (.iaload, 1) := by decide +kernel
theorem dX8_harvest_89 : decode cX8_harvest 89 = .ok (.istore 5, 2) := by decide +kernel
theorem dX8_harvest_91 : decode cX8_harvest 91 = .ok (.aload_n 0, 1) := by decide +kernel
theorem dX8_harvest_92 : decode cX8_harvest 92 = .ok (.getfield 9, 3) := by decide +kernel
theorem dX8_harvest_95 : decode cX8_harvest 95 = .ok (.sipush 608, 3) := by decide +kernel
theorem dX8_harvest_98 : decode cX8_harvest 98 = .ok (.iconst 4, 1) := by decide +kernel
theorem dX8_harvest_99 : decode cX8_harvest 99 = .ok (.iload 5, 2) := by decide +kernel
theorem dX8_harvest_101 : decode cX8_harvest 101 = .ok (.imul, 1) := by decide +kernel
theorem dX8_harvest_102 : decode cX8_harvest 102 = .ok (.iadd, 1) := by decide +kernel
theorem dX8_harvest_103 : decode cX8_harvest 103 = .ok (.iload_n 1, 1) := by decide +kernel
theorem dX8_harvest_104 : decode cX8_harvest 104 = .ok (.iastore, 1) := by decide +kernel
theorem dX8_harvest_105 : decode cX8_harvest 105 = .ok (.aload_n 0, 1) := by decide +kernel
theorem dX8_harvest_106 : decode cX8_harvest 106 = .ok (.getfield 9, 3) := by decide +kernel
theorem dX8_harvest_109 : decode cX8_harvest 109 = .ok (.sipush 608, 3) := by decide +kernel
theorem dX8_harvest_112 : decode cX8_harvest 112 = .ok (.iconst 4, 1) := by decide +kernel
theorem dX8_harvest_113 : decode cX8_harvest 113 = .ok (.iload 5, 2) := by decide +kernel
theorem dX8_harvest_115 : decode cX8_harvest 115 = .ok (.imul, 1) := by decide +kernel
theorem dX8_harvest_116 : decode cX8_harvest 116 = .ok (.iadd, 1) := by decide +kernel
theorem dX8_harvest_117 : decode cX8_harvest 117 = .ok (.iconst 1, 1) := by decide +kernel
theorem dX8_harvest_118 : decode cX8_harvest 118 = .ok (.iadd, 1) := by decide +kernel
theorem dX8_harvest_119 : decode cX8_harvest 119 = .ok (.iload_n 2, 1) := by decide +kernel
theorem dX8_harvest_120 : decode cX8_harvest 120 = .ok (.iastore, 1) := by decide +kernel
theorem dX8_harvest_121 : decode cX8_harvest 121 = .ok (.aload_n 0, 1) := by decide +kernel
theorem dX8_harvest_122 : decode cX8_harvest 122 = .ok (.getfield 9, 3) := by decide +kernel
theorem dX8_harvest_125 : decode cX8_harvest 125 = .ok (.sipush 608, 3) := by decide +kernel
theorem dX8_harvest_128 : decode cX8_harvest 128 = .ok (.iconst 4, 1) := by decide +kernel
theorem dX8_harvest_129 : decode cX8_harvest 129 = .ok (.iload 5, 2) := by decide +kernel
theorem dX8_harvest_131 : decode cX8_harvest 131 = .ok (.imul, 1) := by decide +kernel
theorem dX8_harvest_132 : decode cX8_harvest 132 = .ok (.iadd, 1) := by decide +kernel
theorem dX8_harvest_133 : decode cX8_harvest 133 = .ok (.iconst 2, 1) := by decide +kernel
theorem dX8_harvest_134 : decode cX8_harvest 134 = .ok (.iadd, 1) := by decide +kernel
theorem dX8_harvest_135 : decode cX8_harvest 135 = .ok (.iload_n 3, 1) := by decide +kernel
theorem dX8_harvest_136 : decode cX8_harvest 136 = .ok (.iastore, 1) := by decide +kernel
theorem dX8_harvest_137 : decode cX8_harvest 137 = .ok (.aload_n 0, 1) := by decide +kernel
theorem dX8_harvest_138 : decode cX8_harvest 138 = .ok (.getfield 9, 3) := by decide +kernel
theorem dX8_harvest_141 : decode cX8_harvest 141 = .ok (.sipush 608, 3) := by decide +kernel
theorem dX8_harvest_144 : decode cX8_harvest 144 = .ok (.iconst 4, 1) := by decide +kernel
theorem dX8_harvest_145 : decode cX8_harvest 145 = .ok (.iload 5, 2) := by decide +kernel
theorem dX8_harvest_147 : decode cX8_harvest 147 = .ok (.imul, 1) := by decide +kernel
theorem dX8_harvest_148 : decode cX8_harvest 148 = .ok (.iadd, 1) := by decide +kernel
theorem dX8_harvest_149 : decode cX8_harvest 149 = .ok (.iconst 3, 1) := by decide +kernel
theorem dX8_harvest_150 : decode cX8_harvest 150 = .ok (.iadd, 1) := by decide +kernel
theorem dX8_harvest_151 : decode cX8_harvest 151 = .ok (.iload 4, 2) := by decide +kernel
theorem dX8_harvest_153 : decode cX8_harvest 153 = .ok (.iastore, 1) := by decide +kernel
theorem dX8_harvest_154 : decode cX8_harvest 154 = .ok (.aload_n 0, 1) := by decide +kernel
theorem dX8_harvest_155 : decode cX8_harvest 155 = .ok (.getfield 9, 3) := by decide +kernel
theorem dX8_harvest_158 : decode cX8_harvest 158 = .ok (.iconst 1, 1) := by decide +kernel
theorem dX8_harvest_159 : decode cX8_harvest 159 = .ok (.dup2, 1) := by decide +kernel
theorem dX8_harvest_160 : decode cX8_harvest 160 = .ok (.iaload, 1) := by decide +kernel
theorem dX8_harvest_161 : decode cX8_harvest 161 = .ok (.iconst 1, 1) := by decide +kernel
theorem dX8_harvest_162 : decode cX8_harvest 162 = .ok (.iadd, 1) := by decide +kernel
theorem dX8_harvest_163 : decode cX8_harvest 163 = .ok (.iastore, 1) := by decide +kernel
theorem dX8_harvest_164 : decode cX8_harvest 164 = .ok (.aload_n 0, 1) := by decide +kernel
theorem dX8_harvest_165 : decode cX8_harvest 165 = .ok (.iload 4, 2) := by decide +kernel
theorem dX8_harvest_167 : decode cX8_harvest 167 = .ok (.iconst 0, 1) := by decide +kernel
theorem dX8_harvest_168 : decode cX8_harvest 168 = .ok (.iload 5, 2) := by decide +kernel
theorem dX8_harvest_170 : decode cX8_harvest 170 = .ok (.invokevirtual 66, 3) := by decide +kernel
theorem dX8_harvest_173 : decode cX8_harvest 173 = .ok (.istore 6, 2) := by decide +kernel
theorem dX8_harvest_175 : decode cX8_harvest 175 = .ok (.aload_n 0, 1) := by decide +kernel
theorem dX8_harvest_176 : decode cX8_harvest 176 = .ok (.iload 6, 2) := by decide +kernel
theorem dX8_harvest_178 : decode cX8_harvest 178 = .ok (.bipush 13, 2) := by decide +kernel
theorem dX8_harvest_180 : decode cX8_harvest 180 = .ok (.iload 5, 2) := by decide +kernel
theorem dX8_harvest_182 : decode cX8_harvest 182 = .ok (.iadd, 1) := by decide +kernel
theorem dX8_harvest_183 : decode cX8_harvest 183 = .ok (.sipush 1000, 3) := by decide +kernel
theorem dX8_harvest_186 : decode cX8_harvest 186 = .ok (.invokevirtual 59, 3) := by decide +kernel
theorem dX8_harvest_189 : decode cX8_harvest 189 = .ok (.iload 6, 2) := by decide +kernel
theorem dX8_harvest_191 : decode cX8_harvest 191 = .ok (.ireturn, 1) := by decide +kernel
theorem dX8_isDigit_0 : decode cX8_isDigit 0 = .ok (.aload_n 0, 1) := by decide +kernel
theorem dX8_isDigit_1 : decode cX8_isDigit 1 = .ok (.getfield 70, 3) := by decide +kernel
theorem dX8_isDigit_4 : decode cX8_isDigit 4 = .ok (.ifCond .ne 37, 3) := by decide +kernel
theorem dX8_isDigit_7 : decode cX8_isDigit 7 = .ok (.aload_n 0, 1) := by decide +kernel
theorem dX8_isDigit_8 : decode cX8_isDigit 8 = .ok (.getfield 74, 3) := by decide +kernel
theorem dX8_isDigit_11 : decode cX8_isDigit 11 = .ok (.aload_n 0, 1) := by decide +kernel
theorem dX8_isDigit_12 : decode cX8_isDigit 12 = .ok (.getfield 77, 3) := by decide +kernel
theorem dX8_isDigit_15 : decode cX8_isDigit 15 = .ok (.if_icmp .ge 26, 3) := by decide +kernel
theorem dX8_isDigit_18 : decode cX8_isDigit 18 = .ok (.aload_n 0, 1) := by decide +kernel
theorem dX8_isDigit_19 : decode cX8_isDigit 19 = .ok (.getfield 23, 3) := by decide +kernel
theorem dX8_isDigit_22 : decode cX8_isDigit 22 = .ok (.aload_n 0, 1) := by decide +kernel
theorem dX8_isDigit_23 : decode cX8_isDigit 23 = .ok (.getfield 74, 3) := by decide +kernel
theorem dX8_isDigit_26 : decode cX8_isDigit 26 = .ok (.caload, 1) := by decide +kernel
theorem dX8_isDigit_27 : decode cX8_isDigit 27 = .ok (.bipush 48, 2) := by decide +kernel
theorem dX8_isDigit_29 : decode cX8_isDigit 29 = .ok (.bipush 57, 2) := by decide +kernel
theorem dX8_isDigit_31 : decode cX8_isDigit 31 = .ok (.invokestatic 55, 3) := by decide +kernel
theorem dX8_isDigit_34 : decode cX8_isDigit 34 = .ok (.ifCond .eq 7, 3) := by decide +kernel
theorem dX8_isDigit_37 : decode cX8_isDigit 37 = .ok (.iconst 1, 1) := by decide +kernel
theorem dX8_isDigit_38 : decode cX8_isDigit 38 = .ok (.goto 4, 3) := by decide +kernel
theorem dX8_isDigit_41 : decode cX8_isDigit 41 = .ok (.iconst 0, 1) := by decide +kernel
theorem dX8_isDigit_42 : decode cX8_isDigit 42 = .ok (.ireturn, 1) := by decide +kernel
theorem dX8_number_0 : decode cX8_number 0 = .ok (.aload_n 0, 1) := by decide +kernel
theorem dX8_number_1 : decode cX8_number 1 = .ok (.invokevirtual 80, 3) := by decide +kernel
theorem dX8_number_4 : decode cX8_number 4 = .ok (.ifCond .ne 10, 3) := by decide +kernel
theorem dX8_number_7 : decode cX8_number 7 = .ok (.aload_n 0, 1) := by decide +kernel
theorem dX8_number_8 : decode cX8_number 8 = .ok (.iconst 1, 1) := by decide +kernel
theorem dX8_number_9 : decode cX8_number 9 = .ok (.putfield 70, 3) := by decide +kernel
theorem dX8_number_12 : decode cX8_number 12 = .ok (.iconst 0, 1) := by decide +kernel
theorem dX8_number_13 : decode cX8_number 13 = .ok (.ireturn, 1) := by decide +kernel
theorem dX8_number_14 : decode cX8_number 14 = .ok (.aload_n 0, 1) := by decide +kernel
theorem dX8_number_15 : decode cX8_number 15 = .ok (.getfield 23, 3) := by decide +kernel
theorem dX8_number_18 : decode cX8_number 18 = .ok (.aload_n 0, 1) := by decide +kernel
theorem dX8_number_19 : decode cX8_number 19 = .ok (.getfield 74, 3) := by decide +kernel
theorem dX8_number_22 : decode cX8_number 22 = .ok (.caload, 1) := by decide +kernel
theorem dX8_number_23 : decode cX8_number 23 = .ok (.bipush 48, 2) := by decide +kernel
theorem dX8_number_25 : decode cX8_number 25 = .ok (.isub, 1) := by decide +kernel
theorem dX8_number_26 : decode cX8_number 26 = .ok (.istore_n 1, 1) := by decide +kernel
theorem dX8_number_27 : decode cX8_number 27 = .ok (.aload_n 0, 1) := by decide +kernel
theorem dX8_number_28 : decode cX8_number 28 = .ok (.dup, 1) := by decide +kernel
theorem dX8_number_29 : decode cX8_number 29 = .ok (.getfield 74, 3) := by decide +kernel
theorem dX8_number_32 : decode cX8_number 32 = .ok (.iconst 1, 1) := by decide +kernel
theorem dX8_number_33 : decode cX8_number 33 = .ok (.iadd, 1) := by decide +kernel
theorem dX8_number_34 : decode cX8_number 34 = .ok (.putfield 74, 3) := by decide +kernel
theorem dX8_number_37 : decode cX8_number 37 = .ok (.iconst 1, 1) := by decide +kernel
theorem dX8_number_38 : decode cX8_number 38 = .ok (.istore_n 2, 1) := by decide +kernel
theorem dX8_number_39 : decode cX8_number 39 = .ok (.iload_n 2, 1) := by decide +kernel
theorem dX8_number_40 : decode cX8_number 40 = .ok (.iconst 4, 1) := by decide +kernel
theorem dX8_number_41 : decode cX8_number 41 = .ok (.if_icmp .ge 48, 3) := by decide +kernel
theorem dX8_number_44 : decode cX8_number 44 = .ok (.iload_n 1, 1) := by decide +kernel
theorem dX8_number_45 : decode cX8_number 45 = .ok (.ifCond .le 44, 3) := by decide +kernel
theorem dX8_number_48 : decode cX8_number 48 = .ok (.aload_n 0, 1) := by decide +kernel
theorem dX8_number_49 : decode cX8_number 49 = .ok (.invokevirtual 80, 3) := by decide +kernel
theorem dX8_number_52 : decode cX8_number 52 = .ok (.ifCond .eq 37, 3) := by decide +kernel
theorem dX8_number_55 : decode cX8_number 55 = .ok (.bipush 10, 2) := by decide +kernel
theorem dX8_number_57 : decode cX8_number 57 = .ok (.iload_n 1, 1) := by decide +kernel
theorem dX8_number_58 : decode cX8_number 58 = .ok (.imul, 1) := by decide +kernel
theorem dX8_number_59 : decode cX8_number 59 = .ok (.aload_n 0, 1) := by decide +kernel
theorem dX8_number_60 : decode cX8_number 60 = .ok (.getfield 23, 3) := by decide +kernel
theorem dX8_number_63 : decode cX8_number 63 = .ok (.aload_n 0, 1) := by decide +kernel
theorem dX8_number_64 : decode cX8_number 64 = .ok (.getfield 74, 3) := by decide +kernel
theorem dX8_number_67 : decode cX8_number 67 = .ok (.caload, 1) := by decide +kernel
theorem dX8_number_68 : decode cX8_number 68 = .ok (.iadd, 1) := by decide +kernel
theorem dX8_number_69 : decode cX8_number 69 = .ok (.bipush 48, 2) := by decide +kernel
theorem dX8_number_71 : decode cX8_number 71 = .ok (.isub, 1) := by decide +kernel
theorem dX8_number_72 : decode cX8_number 72 = .ok (.istore_n 1, 1) := by decide +kernel
theorem dX8_number_73 : decode cX8_number 73 = .ok (.aload_n 0, 1) := by decide +kernel
theorem dX8_number_74 : decode cX8_number 74 = .ok (.dup, 1) := by decide +kernel
theorem dX8_number_75 : decode cX8_number 75 = .ok (.getfield 74, 3) := by decide +kernel
theorem dX8_number_78 : decode cX8_number 78 = .ok (.iconst 1, 1) := by decide +kernel
theorem dX8_number_79 : decode cX8_number 79 = .ok (.iadd, 1) := by decide +kernel
theorem dX8_number_80 : decode cX8_number 80 = .ok (.putfield 74, 3) := by decide +kernel
theorem dX8_number_83 : decode cX8_number 83 = .ok (.iinc 2 1, 3) := by decide +kernel
theorem dX8_number_86 : decode cX8_number 86 = .ok (.goto (-47), 3) := by decide +kernel
theorem dX8_number_89 : decode cX8_number 89 = .ok (.iload_n 1, 1) := by decide +kernel
theorem dX8_number_90 : decode cX8_number 90 = .ok (.ireturn, 1) := by decide +kernel
theorem dX8_goesOn_0 : decode cX8_goesOn 0 = .ok (.aload_n 0, 1) := by decide +kernel
theorem dX8_goesOn_1 : decode cX8_goesOn 1 = .ok (.getfield 70, 3) := by decide +kernel
theorem dX8_goesOn_4 : decode cX8_goesOn 4 = .ok (.ifCond .ne 31, 3) := by decide +kernel
theorem dX8_goesOn_7 : decode cX8_goesOn 7 = .ok (.aload_n 0, 1) := by decide +kernel
theorem dX8_goesOn_8 : decode cX8_goesOn 8 = .ok (.getfield 74, 3) := by decide +kernel
theorem dX8_goesOn_11 : decode cX8_goesOn 11 = .ok (.aload_n 0, 1) := by decide +kernel
theorem dX8_goesOn_12 : decode cX8_goesOn 12 = .ok (.getfield 77, 3) := by decide +kernel
theorem dX8_goesOn_15 : decode cX8_goesOn 15 = .ok (.if_icmp .ge 20, 3) := by decide +kernel
theorem dX8_goesOn_18 : decode cX8_goesOn 18 = .ok (.aload_n 0, 1) := by decide +kernel
theorem dX8_goesOn_19 : decode cX8_goesOn 19 = .ok (.getfield 23, 3) := by decide +kernel
theorem dX8_goesOn_22 : decode cX8_goesOn 22 = .ok (.aload_n 0, 1) := by decide +kernel
theorem dX8_goesOn_23 : decode cX8_goesOn 23 = .ok (.getfield 74, 3) := by decide +kernel
theorem dX8_goesOn_26 : decode cX8_goesOn 26 = .ok (.caload, 1) := by decide +kernel
theorem dX8_goesOn_27 : decode cX8_goesOn 27 = .ok (.iload_n 1, 1) := by decide +kernel
theorem dX8_goesOn_28 : decode cX8_goesOn 28 = .ok (.if_icmp .ne 7, 3) := by decide +kernel
theorem dX8_goesOn_31 : decode cX8_goesOn 31 = .ok (.iconst 1, 1) := by decide +kernel
theorem dX8_goesOn_32 : decode cX8_goesOn 32 = .ok (.goto 4, 3) := by decide +kernel
theorem dX8_goesOn_35 : decode cX8_goesOn 35 = .ok (.iconst 0, 1) := by decide +kernel
theorem dX8_goesOn_36 : decode cX8_goesOn 36 = .ok (.istore_n 2, 1) := by decide +kernel
theorem dX8_goesOn_37 : decode cX8_goesOn 37 = .ok (.aload_n 0, 1) := by decide +kernel
theorem dX8_goesOn_38 : decode cX8_goesOn 38 = .ok (.dup, 1) := by decide +kernel
theorem dX8_goesOn_39 : decode cX8_goesOn 39 = .ok (.getfield 74, 3) := by decide +kernel
theorem dX8_goesOn_42 : decode cX8_goesOn 42 = .ok (.iload_n 2, 1) := by decide +kernel
theorem dX8_goesOn_43 : decode cX8_goesOn 43 = .ok (.ifCond .eq 7, 3) := by decide +kernel
theorem dX8_goesOn_46 : decode cX8_goesOn 46 = .ok (.iconst 1, 1) := by decide +kernel
theorem dX8_goesOn_47 : decode cX8_goesOn 47 = .ok (.goto 4, 3) := by decide +kernel
theorem dX8_goesOn_50 : decode cX8_goesOn 50 = .ok (.iconst 0, 1) := by decide +kernel
theorem dX8_goesOn_51 : decode cX8_goesOn 51 = .ok (.iadd, 1) := by decide +kernel
theorem dX8_goesOn_52 : decode cX8_goesOn 52 = .ok (.putfield 74, 3) := by decide +kernel
theorem dX8_goesOn_55 : decode cX8_goesOn 55 = .ok (.iload_n 2, 1) := by decide +kernel
theorem dX8_goesOn_56 : decode cX8_goesOn 56 = .ok (.ireturn, 1) := by decide +kernel
theorem dX8_readsPart_0 : decode cX8_readsPart 0 = .ok (.aload_n 0, 1) := by decide +kernel
theorem dX8_readsPart_1 : decode cX8_readsPart 1 = .ok (.invokevirtual 84, 3) := by decide +kernel
theorem dX8_readsPart_4 : decode cX8_readsPart 4 = .ok (.istore_n 1, 1) := by decide +kernel
theorem dX8_readsPart_5 : decode cX8_readsPart 5 = .ok (.aload_n 0, 1) := by decide +kernel
theorem dX8_readsPart_6 : decode cX8_readsPart 6 = .ok (.aload_n 0, 1) := by decide +kernel
theorem dX8_readsPart_7 : decode cX8_readsPart 7 = .ok (.getfield 70, 3) := by decide +kernel
theorem dX8_readsPart_10 : decode cX8_readsPart 10 = .ok (.ifCond .ne 12, 3) := by decide +kernel
theorem dX8_readsPart_13 : decode cX8_readsPart 13 = .ok (.aload_n 0, 1) := by decide +kernel
theorem dX8_readsPart_14 : decode cX8_readsPart 14 = .ok (.bipush 58, 2) := by decide +kernel
theorem dX8_readsPart_16 : decode cX8_readsPart 16 = .ok (.invokevirtual 88, 3) := by decide +kernel
theorem dX8_readsPart_19 : decode cX8_readsPart 19 = .ok (.ifCond .ne 7, 3) := by decide +kernel
theorem dX8_readsPart_22 : decode cX8_readsPart 22 = .ok (.iconst 1, 1) := by decide +kernel
theorem dX8_readsPart_23 : decode cX8_readsPart 23 = .ok (.goto 4, 3) := by decide +kernel
theorem dX8_readsPart_26 : decode cX8_readsPart 26 = .ok (.iconst 0, 1) := by decide +kernel
theorem dX8_readsPart_27 : decode cX8_readsPart 27 = .ok (.putfield 70, 3) := by decide +kernel
theorem dX8_readsPart_30 : decode cX8_readsPart 30 = .ok (.aload_n 0, 1) := by decide +kernel
theorem dX8_readsPart_31 : decode cX8_readsPart 31 = .ok (.invokevirtual 84, 3) := by decide +kernel
theorem dX8_readsPart_34 : decode cX8_readsPart 34 = .ok (.istore_n 2, 1) := by decide +kernel
theorem dX8_readsPart_35 : decode cX8_readsPart 35 = .ok (.aload_n 0, 1) := by decide +kernel
theorem dX8_readsPart_36 : decode cX8_readsPart 36 = .ok (.getfield 70, 3) := by decide +kernel
theorem dX8_readsPart_39 : decode cX8_readsPart 39 = .ok (.ifCond .ne 33, 3) := by decide +kernel
theorem dX8_readsPart_42 : decode cX8_readsPart 42 = .ok (.aload_n 0, 1) := by decide +kernel
theorem dX8_readsPart_43 : decode cX8_readsPart 43 = .ok (.getfield 27, 3) := by decide +kernel
theorem dX8_readsPart_46 : decode cX8_readsPart 46 = .ok (.aload_n 0, 1) := by decide +kernel
theorem dX8_readsPart_47 : decode cX8_readsPart 47 = .ok (.getfield 92, 3) := by decide +kernel
theorem dX8_readsPart_50 : decode cX8_readsPart 50 = .ok (.iload_n 1, 1) := by decide +kernel
theorem dX8_readsPart_51 : decode cX8_readsPart 51 = .ok (.iastore, 1) := by decide +kernel
theorem dX8_readsPart_52 : decode cX8_readsPart 52 = .ok (.aload_n 0, 1) := by decide +kernel
theorem dX8_readsPart_53 : decode cX8_readsPart 53 = .ok (.getfield 30, 3) := by decide +kernel
theorem dX8_readsPart_56 : decode cX8_readsPart 56 = .ok (.aload_n 0, 1) := by decide +kernel
theorem dX8_readsPart_57 : decode cX8_readsPart 57 = .ok (.getfield 92, 3) := by decide +kernel
theorem dX8_readsPart_60 : decode cX8_readsPart 60 = .ok (.iload_n 2, 1) := by decide +kernel
theorem dX8_readsPart_61 : decode cX8_readsPart 61 = .ok (.iastore, 1) := by decide +kernel
theorem dX8_readsPart_62 : decode cX8_readsPart 62 = .ok (.aload_n 0, 1) := by decide +kernel
theorem dX8_readsPart_63 : decode cX8_readsPart 63 = .ok (.dup, 1) := by decide +kernel
theorem dX8_readsPart_64 : decode cX8_readsPart 64 = .ok (.getfield 92, 3) := by decide +kernel
theorem dX8_readsPart_67 : decode cX8_readsPart 67 = .ok (.iconst 1, 1) := by decide +kernel
theorem dX8_readsPart_68 : decode cX8_readsPart 68 = .ok (.iadd, 1) := by decide +kernel
theorem dX8_readsPart_69 : decode cX8_readsPart 69 = .ok (.putfield 92, 3) := by decide +kernel
theorem dX8_readsPart_72 : decode cX8_readsPart 72 = .ok (.return_, 1) := by decide +kernel
theorem dX8_reads_0 : decode cX8_reads 0 = .ok (.aload_n 0, 1) := by decide +kernel
theorem dX8_reads_1 : decode cX8_reads 1 = .ok (.iconst 0, 1) := by decide +kernel
theorem dX8_reads_2 : decode cX8_reads 2 = .ok (.putfield 74, 3) := by decide +kernel
theorem dX8_reads_5 : decode cX8_reads 5 = .ok (.aload_n 0, 1) := by decide +kernel
theorem dX8_reads_6 : decode cX8_reads 6 = .ok (.iconst 0, 1) := by decide +kernel
theorem dX8_reads_7 : decode cX8_reads 7 = .ok (.putfield 70, 3) := by decide +kernel
theorem dX8_reads_10 : decode cX8_reads 10 = .ok (.aload_n 0, 1) := by decide +kernel
theorem dX8_reads_11 : decode cX8_reads 11 = .ok (.iconst 0, 1) := by decide +kernel
theorem dX8_reads_12 : decode cX8_reads 12 = .ok (.putfield 92, 3) := by decide +kernel
theorem dX8_reads_15 : decode cX8_reads 15 = .ok (.aload_n 0, 1) := by decide +kernel
theorem dX8_reads_16 : decode cX8_reads 16 = .ok (.invokevirtual 95, 3) := by decide +kernel
theorem dX8_reads_19 : decode cX8_reads 19 = .ok (.aload_n 0, 1) := by decide +kernel
theorem dX8_reads_20 : decode cX8_reads 20 = .ok (.aload_n 0, 1) := by decide +kernel
theorem dX8_reads_21 : decode cX8_reads 21 = .ok (.getfield 70, 3) := by decide +kernel
theorem dX8_reads_24 : decode cX8_reads 24 = .ok (.ifCond .ne 12, 3) := by decide +kernel
theorem dX8_reads_27 : decode cX8_reads 27 = .ok (.aload_n 0, 1) := by decide +kernel
theorem dX8_reads_28 : decode cX8_reads 28 = .ok (.bipush 43, 2) := by decide +kernel
theorem dX8_reads_30 : decode cX8_reads 30 = .ok (.invokevirtual 88, 3) := by decide +kernel
theorem dX8_reads_33 : decode cX8_reads 33 = .ok (.ifCond .ne 7, 3) := by decide +kernel
theorem dX8_reads_36 : decode cX8_reads 36 = .ok (.iconst 1, 1) := by decide +kernel
theorem dX8_reads_37 : decode cX8_reads 37 = .ok (.goto 4, 3) := by decide +kernel
theorem dX8_reads_40 : decode cX8_reads 40 = .ok (.iconst 0, 1) := by decide +kernel
theorem dX8_reads_41 : decode cX8_reads 41 = .ok (.putfield 70, 3) := by decide +kernel
theorem dX8_reads_44 : decode cX8_reads 44 = .ok (.aload_n 0, 1) := by decide +kernel
theorem dX8_reads_45 : decode cX8_reads 45 = .ok (.invokevirtual 95, 3) := by decide +kernel
theorem dX8_reads_48 : decode cX8_reads 48 = .ok (.aload_n 0, 1) := by decide +kernel
theorem dX8_reads_49 : decode cX8_reads 49 = .ok (.getfield 70, 3) := by decide +kernel
theorem dX8_reads_52 : decode cX8_reads 52 = .ok (.ifCond .ne 27, 3) := by decide +kernel
theorem dX8_reads_55 : decode cX8_reads 55 = .ok (.aload_n 0, 1) := by decide +kernel
theorem dX8_reads_56 : decode cX8_reads 56 = .ok (.getfield 92, 3) := by decide +kernel
theorem dX8_reads_59 : decode cX8_reads 59 = .ok (.iconst 4, 1) := by decide +kernel
theorem dX8_reads_60 : decode cX8_reads 60 = .ok (.if_icmp .ge 19, 3) := by decide +kernel
theorem dX8_reads_63 : decode cX8_reads 63 = .ok (.aload_n 0, 1) := by decide +kernel
theorem dX8_reads_64 : decode cX8_reads 64 = .ok (.bipush 43, 2) := by decide +kernel
theorem dX8_reads_66 : decode cX8_reads 66 = .ok (.invokevirtual 88, 3) := by decide +kernel
theorem dX8_reads_69 : decode cX8_reads 69 = .ok (.ifCond .eq 10, 3) := by decide +kernel
theorem dX8_reads_72 : decode cX8_reads 72 = .ok (.aload_n 0, 1) := by decide +kernel
theorem dX8_reads_73 : decode cX8_reads 73 = .ok (.invokevirtual 95, 3) := by decide +kernel
theorem dX8_reads_76 : decode cX8_reads 76 = .ok (.goto (-28), 3) := by decide +kernel
theorem dX8_reads_79 : decode cX8_reads 79 = .ok (.aload_n 0, 1) := by decide +kernel
theorem dX8_reads_80 : decode cX8_reads 80 = .ok (.aload_n 0, 1) := by decide +kernel
theorem dX8_reads_81 : decode cX8_reads 81 = .ok (.getfield 70, 3) := by decide +kernel
theorem dX8_reads_84 : decode cX8_reads 84 = .ok (.ifCond .ne 14, 3) := by decide +kernel
theorem dX8_reads_87 : decode cX8_reads 87 = .ok (.aload_n 0, 1) := by decide +kernel
theorem dX8_reads_88 : decode cX8_reads 88 = .ok (.getfield 74, 3) := by decide +kernel
theorem dX8_reads_91 : decode cX8_reads 91 = .ok (.aload_n 0, 1) := by decide +kernel
theorem dX8_reads_92 : decode cX8_reads 92 = .ok (.getfield 77, 3) := by decide +kernel
theorem dX8_reads_95 : decode cX8_reads 95 = .ok (.if_icmp .ge 7, 3) := by decide +kernel
theorem dX8_reads_98 : decode cX8_reads 98 = .ok (.iconst 1, 1) := by decide +kernel
theorem dX8_reads_99 : decode cX8_reads 99 = .ok (.goto 4, 3) := by decide +kernel
theorem dX8_reads_102 : decode cX8_reads 102 = .ok (.iconst 0, 1) := by decide +kernel
theorem dX8_reads_103 : decode cX8_reads 103 = .ok (.putfield 70, 3) := by decide +kernel
theorem dX8_reads_106 : decode cX8_reads 106 = .ok (.return_, 1) := by decide +kernel
theorem dX8_isAnyNothing_0 : decode cX8_isAnyNothing 0 = .ok (.iconst 0, 1) := by decide +kernel
theorem dX8_isAnyNothing_1 : decode cX8_isAnyNothing 1 = .ok (.istore_n 1, 1) := by decide +kernel
theorem dX8_isAnyNothing_2 : decode cX8_isAnyNothing 2 = .ok (.iconst 0, 1) := by decide +kernel
theorem dX8_isAnyNothing_3 : decode cX8_isAnyNothing 3 = .ok (.istore_n 2, 1) := by decide +kernel
theorem dX8_isAnyNothing_4 : decode cX8_isAnyNothing 4 = .ok (.iload_n 2, 1) := by decide +kernel
theorem dX8_isAnyNothing_5 : decode cX8_isAnyNothing 5 = .ok (.aload_n 0, 1) := by decide +kernel
theorem dX8_isAnyNothing_6 : decode cX8_isAnyNothing 6 = .ok (.getfield 92, 3) := by decide +kernel
theorem dX8_isAnyNothing_9 : decode cX8_isAnyNothing 9 = .ok (.if_icmp .ge 28, 3) := by decide +kernel
theorem dX8_isAnyNothing_12 : decode cX8_isAnyNothing 12 = .ok (.iload_n 1, 1) := by decide +kernel
theorem dX8_isAnyNothing_13 : decode cX8_isAnyNothing 13 = .ok (.ifCond .ne 12, 3) := by decide +kernel
theorem dX8_isAnyNothing_16 : decode cX8_isAnyNothing 16 = .ok (.aload_n 0, 1) := by decide +kernel
theorem dX8_isAnyNothing_17 : decode cX8_isAnyNothing 17 = .ok (.getfield 30, 3) := by decide +kernel
theorem dX8_isAnyNothing_20 : decode cX8_isAnyNothing 20 = .ok (.iload_n 2, 1) := by decide +kernel
theorem dX8_isAnyNothing_21 : decode cX8_isAnyNothing 21 = .ok (.iaload, 1) := by decide +kernel
theorem dX8_isAnyNothing_22 : decode cX8_isAnyNothing 22 = .ok (.ifCond .ne 7, 3) := by decide +kernel
theorem dX8_isAnyNothing_25 : decode cX8_isAnyNothing 25 = .ok (.iconst 1, 1) := by decide +kernel
theorem dX8_isAnyNothing_26 : decode cX8_isAnyNothing 26 = .ok (.goto 4, 3) := by decide +kernel
theorem dX8_isAnyNothing_29 : decode cX8_isAnyNothing 29 = .ok (.iconst 0, 1) := by decide +kernel
theorem dX8_isAnyNothing_30 : decode cX8_isAnyNothing 30 = .ok (.istore_n 1, 1) := by decide +kernel
theorem dX8_isAnyNothing_31 : decode cX8_isAnyNothing 31 = .ok (.iinc 2 1, 3) := by decide +kernel
theorem dX8_isAnyNothing_34 : decode cX8_isAnyNothing 34 = .ok (.goto (-30), 3) := by decide +kernel
theorem dX8_isAnyNothing_37 : decode cX8_isAnyNothing 37 = .ok (.iload_n 1, 1) := by decide +kernel
theorem dX8_isAnyNothing_38 : decode cX8_isAnyNothing 38 = .ok (.ireturn, 1) := by decide +kernel
theorem dX8_areLots_0 : decode cX8_areLots 0 = .ok (.iconst 1, 1) := by decide +kernel
theorem dX8_areLots_1 : decode cX8_areLots 1 = .ok (.istore_n 1, 1) := by decide +kernel
theorem dX8_areLots_2 : decode cX8_areLots 2 = .ok (.iconst 0, 1) := by decide +kernel
theorem dX8_areLots_3 : decode cX8_areLots 3 = .ok (.istore_n 2, 1) := by decide +kernel
theorem dX8_areLots_4 : decode cX8_areLots 4 = .ok (.iload_n 2, 1) := by decide +kernel
theorem dX8_areLots_5 : decode cX8_areLots 5 = .ok (.aload_n 0, 1) := by decide +kernel
theorem dX8_areLots_6 : decode cX8_areLots 6 = .ok (.getfield 92, 3) := by decide +kernel
theorem dX8_areLots_9 : decode cX8_areLots 9 = .ok (.if_icmp .ge 70, 3) := by decide +kernel
theorem dX8_areLots_12 : decode cX8_areLots 12 = .ok (.iload_n 1, 1) := by decide +kernel
theorem dX8_areLots_13 : decode cX8_areLots 13 = .ok (.ifCond .eq 20, 3) := by decide +kernel
theorem dX8_areLots_16 : decode cX8_areLots 16 = .ok (.aload_n 0, 1) := by decide +kernel
theorem dX8_areLots_17 : decode cX8_areLots 17 = .ok (.aload_n 0, 1) := by decide +kernel
theorem dX8_areLots_18 : decode cX8_areLots 18 = .ok (.getfield 27, 3) := by decide +kernel
theorem dX8_areLots_21 : decode cX8_areLots 21 = .ok (.iload_n 2, 1) := by decide +kernel
theorem dX8_areLots_22 : decode cX8_areLots 22 = .ok (.iaload, 1) := by decide +kernel
theorem dX8_areLots_23 : decode cX8_areLots 23 = .ok (.invokevirtual 98, 3) := by decide +kernel
theorem dX8_areLots_26 : decode cX8_areLots 26 = .ok (.ifCond .eq 7, 3) := by decide +kernel
theorem dX8_areLots_29 : decode cX8_areLots 29 = .ok (.iconst 1, 1) := by decide +kernel
theorem dX8_areLots_30 : decode cX8_areLots 30 = .ok (.goto 4, 3) := by decide +kernel
theorem dX8_areLots_33 : decode cX8_areLots 33 = .ok (.iconst 0, 1) := by decide +kernel
theorem dX8_areLots_34 : decode cX8_areLots 34 = .ok (.istore_n 1, 1) := by decide +kernel
theorem dX8_areLots_35 : decode cX8_areLots 35 = .ok (.iconst 0, 1) := by decide +kernel
theorem dX8_areLots_36 : decode cX8_areLots 36 = .ok (.istore_n 3, 1) := by decide +kernel
theorem dX8_areLots_37 : decode cX8_areLots 37 = .ok (.iload_n 3, 1) := by decide +kernel
theorem dX8_areLots_38 : decode cX8_areLots 38 = .ok (.iload_n 2, 1) := by decide +kernel
theorem dX8_areLots_39 : decode cX8_areLots 39 = .ok (.if_icmp .ge 34, 3) := by decide +kernel
theorem dX8_areLots_42 : decode cX8_areLots 42 = .ok (.iload_n 1, 1) := by decide +kernel
theorem dX8_areLots_43 : decode cX8_areLots 43 = .ok (.ifCond .eq 22, 3) := by decide +kernel
theorem dX8_areLots_46 : decode cX8_areLots 46 = .ok (.aload_n 0, 1) := by decide +kernel
theorem dX8_areLots_47 : decode cX8_areLots 47 = .ok (.getfield 27, 3) := by decide +kernel
theorem dX8_areLots_50 : decode cX8_areLots 50 = .ok (.iload_n 3, 1) := by decide +kernel
theorem dX8_areLots_51 : decode cX8_areLots 51 = .ok (.iaload, 1) := by decide +kernel
theorem dX8_areLots_52 : decode cX8_areLots 52 = .ok (.aload_n 0, 1) := by decide +kernel
theorem dX8_areLots_53 : decode cX8_areLots 53 = .ok (.getfield 27, 3) := by decide +kernel
theorem dX8_areLots_56 : decode cX8_areLots 56 = .ok (.iload_n 2, 1) := by decide +kernel
theorem dX8_areLots_57 : decode cX8_areLots 57 = .ok (.iaload, 1) := by decide +kernel
theorem dX8_areLots_58 : decode cX8_areLots 58 = .ok (.if_icmp .eq 7, 3) := by decide +kernel
theorem dX8_areLots_61 : decode cX8_areLots 61 = .ok (.iconst 1, 1) := by decide +kernel
theorem dX8_areLots_62 : decode cX8_areLots 62 = .ok (.goto 4, 3) := by decide +kernel
theorem dX8_areLots_65 : decode cX8_areLots 65 = .ok (.iconst 0, 1) := by decide +kernel
theorem dX8_areLots_66 : decode cX8_areLots 66 = .ok (.istore_n 1, 1) := by decide +kernel
theorem dX8_areLots_67 : decode cX8_areLots 67 = .ok (.iinc 3 1, 3) := by decide +kernel
theorem dX8_areLots_70 : decode cX8_areLots 70 = .ok (.goto (-33), 3) := by decide +kernel
theorem dX8_areLots_73 : decode cX8_areLots 73 = .ok (.iinc 2 1, 3) := by decide +kernel
theorem dX8_areLots_76 : decode cX8_areLots 76 = .ok (.goto (-72), 3) := by decide +kernel
theorem dX8_areLots_79 : decode cX8_areLots 79 = .ok (.iload_n 1, 1) := by decide +kernel
theorem dX8_areLots_80 : decode cX8_areLots 80 = .ok (.ireturn, 1) := by decide +kernel
theorem dX8_isEnough_0 : decode cX8_isEnough 0 = .ok (.iconst 1, 1) := by decide +kernel
theorem dX8_isEnough_1 : decode cX8_isEnough 1 = .ok (.istore_n 1, 1) := by decide +kernel
theorem dX8_isEnough_2 : decode cX8_isEnough 2 = .ok (.iconst 0, 1) := by decide +kernel
theorem dX8_isEnough_3 : decode cX8_isEnough 3 = .ok (.istore_n 2, 1) := by decide +kernel
theorem dX8_isEnough_4 : decode cX8_isEnough 4 = .ok (.iload_n 2, 1) := by decide +kernel
theorem dX8_isEnough_5 : decode cX8_isEnough 5 = .ok (.aload_n 0, 1) := by decide +kernel
theorem dX8_isEnough_6 : decode cX8_isEnough 6 = .ok (.getfield 92, 3) := by decide +kernel
theorem dX8_isEnough_9 : decode cX8_isEnough 9 = .ok (.if_icmp .ge 39, 3) := by decide +kernel
theorem dX8_isEnough_12 : decode cX8_isEnough 12 = .ok (.iload_n 1, 1) := by decide +kernel
theorem dX8_isEnough_13 : decode cX8_isEnough 13 = .ok (.ifCond .eq 27, 3) := by decide +kernel
theorem dX8_isEnough_16 : decode cX8_isEnough 16 = .ok (.aload_n 0, 1) := by decide +kernel
theorem dX8_isEnough_17 : decode cX8_isEnough 17 = .ok (.getfield 30, 3) := by decide +kernel
theorem dX8_isEnough_20 : decode cX8_isEnough 20 = .ok (.iload_n 2, 1) := by decide +kernel
theorem dX8_isEnough_21 : decode cX8_isEnough 21 = .ok (.iaload, 1) := by decide +kernel
theorem dX8_isEnough_22 : decode cX8_isEnough 22 = .ok (.aload_n 0, 1) := by decide +kernel
theorem dX8_isEnough_23 : decode cX8_isEnough 23 = .ok (.aload_n 0, 1) := by decide +kernel
theorem dX8_isEnough_24 : decode cX8_isEnough 24 = .ok (.getfield 27, 3) := by decide +kernel
theorem dX8_isEnough_27 : decode cX8_isEnough 27 = .ok (.iload_n 2, 1) := by decide +kernel
theorem dX8_isEnough_28 : decode cX8_isEnough 28 = .ok (.iaload, 1) := by decide +kernel
theorem dX8_isEnough_29 : decode cX8_isEnough 29 = .ok (.iconst 1, 1) := by decide +kernel
theorem dX8_isEnough_30 : decode cX8_isEnough 30 = .ok (.invokevirtual 102, 3) := by decide +kernel
theorem dX8_isEnough_33 : decode cX8_isEnough 33 = .ok (.if_icmp .gt 7, 3) := by decide +kernel
theorem dX8_isEnough_36 : decode cX8_isEnough 36 = .ok (.iconst 1, 1) := by decide +kernel
theorem dX8_isEnough_37 : decode cX8_isEnough 37 = .ok (.goto 4, 3) := by decide +kernel
theorem dX8_isEnough_40 : decode cX8_isEnough 40 = .ok (.iconst 0, 1) := by decide +kernel
theorem dX8_isEnough_41 : decode cX8_isEnough 41 = .ok (.istore_n 1, 1) := by decide +kernel
theorem dX8_isEnough_42 : decode cX8_isEnough 42 = .ok (.iinc 2 1, 3) := by decide +kernel
theorem dX8_isEnough_45 : decode cX8_isEnough 45 = .ok (.goto (-41), 3) := by decide +kernel
theorem dX8_isEnough_48 : decode cX8_isEnough 48 = .ok (.iload_n 1, 1) := by decide +kernel
theorem dX8_isEnough_49 : decode cX8_isEnough 49 = .ok (.ireturn, 1) := by decide +kernel
theorem dX8_nextGeneration_0 : decode cX8_nextGeneration 0 = .ok (.iconst 0, 1) := by decide +kernel
theorem dX8_nextGeneration_1 : decode cX8_nextGeneration 1 = .ok (.istore_n 1, 1) := by decide +kernel
theorem dX8_nextGeneration_2 : decode cX8_nextGeneration 2 = .ok (.iconst 0, 1) := by decide +kernel
theorem dX8_nextGeneration_3 : decode cX8_nextGeneration 3 = .ok (.istore_n 2, 1) := by decide +kernel
theorem dX8_nextGeneration_4 : decode cX8_nextGeneration 4 = .ok (.iload_n 2, 1) := by decide +kernel
theorem dX8_nextGeneration_5 : decode cX8_nextGeneration 5 = .ok (.aload_n 0, 1) := by decide +kernel
theorem dX8_nextGeneration_6 : decode cX8_nextGeneration 6 = .ok (.getfield 92, 3) := by decide +kernel
theorem dX8_nextGeneration_9 : decode cX8_nextGeneration 9 = .ok (.if_icmp .ge 40, 3) := by decide +kernel
theorem dX8_nextGeneration_12 : decode cX8_nextGeneration 12 = .ok (.aload_n 0, 1) := by decide +kernel
theorem dX8_nextGeneration_13 : decode cX8_nextGeneration 13 = .ok (.aload_n 0, 1) := by decide +kernel
theorem dX8_nextGeneration_14 : decode cX8_nextGeneration 14 = .ok (.getfield 27, 3) := by decide +kernel
theorem dX8_nextGeneration_17 : decode cX8_nextGeneration 17 = .ok (.iload_n 2, 1) := by decide +kernel
theorem dX8_nextGeneration_18 : decode cX8_nextGeneration 18 = .ok (.iaload, 1) := by decide +kernel
theorem dX8_nextGeneration_19 : decode cX8_nextGeneration 19 = .ok (.iconst 3, 1) := by decide +kernel
theorem dX8_nextGeneration_20 : decode cX8_nextGeneration 20 = .ok (.invokevirtual 102, 3) := by decide +kernel
theorem dX8_nextGeneration_23 : decode cX8_nextGeneration 23 = .ok (.iload_n 1, 1) := by decide +kernel
theorem dX8_nextGeneration_24 : decode cX8_nextGeneration 24 = .ok (.if_icmp .le 17, 3) := by decide +kernel
theorem dX8_nextGeneration_27 : decode cX8_nextGeneration 27 = .ok (.aload_n 0, 1) := by decide +kernel
theorem dX8_nextGeneration_28 : decode cX8_nextGeneration 28 = .ok (.aload_n 0, 1) := by decide +kernel
theorem dX8_nextGeneration_29 : decode cX8_nextGeneration 29 = .ok (.getfield 27, 3) := by decide +kernel
theorem dX8_nextGeneration_32 : decode cX8_nextGeneration 32 = .ok (.iload_n 2, 1) := by decide +kernel
theorem dX8_nextGeneration_33 : decode cX8_nextGeneration 33 = .ok (.iaload, 1) := by decide +kernel
theorem dX8_nextGeneration_34 : decode cX8_nextGeneration 34 = .ok (.iconst 3, 1) := by decide +kernel
theorem dX8_nextGeneration_35 : decode cX8_nextGeneration 35 = .ok (.invokevirtual 102, 3) := by decide +kernel
theorem dX8_nextGeneration_38 : decode cX8_nextGeneration 38 = .ok (.goto 4, 3) := by decide +kernel
theorem dX8_nextGeneration_41 : decode cX8_nextGeneration 41 = .ok (.iload_n 1, 1) := by decide +kernel
theorem dX8_nextGeneration_42 : decode cX8_nextGeneration 42 = .ok (.istore_n 1, 1) := by decide +kernel
theorem dX8_nextGeneration_43 : decode cX8_nextGeneration 43 = .ok (.iinc 2 1, 3) := by decide +kernel
theorem dX8_nextGeneration_46 : decode cX8_nextGeneration 46 = .ok (.goto (-42), 3) := by decide +kernel
theorem dX8_nextGeneration_49 : decode cX8_nextGeneration 49 = .ok (.iload_n 1, 1) := by decide +kernel
theorem dX8_nextGeneration_50 : decode cX8_nextGeneration 50 = .ok (.iconst 1, 1) := by decide +kernel
theorem dX8_nextGeneration_51 : decode cX8_nextGeneration 51 = .ok (.iadd, 1) := by decide +kernel
theorem dX8_nextGeneration_52 : decode cX8_nextGeneration 52 = .ok (.ireturn, 1) := by decide +kernel
theorem dX8_refusal_0 : decode cX8_refusal 0 = .ok (.aload_n 0, 1) := by decide +kernel
theorem dX8_refusal_1 : decode cX8_refusal 1 = .ok (.invokevirtual 106, 3) := by decide +kernel
theorem dX8_refusal_4 : decode cX8_refusal 4 = .ok (.ifCond .ne 5, 3) := by decide +kernel
theorem dX8_refusal_7 : decode cX8_refusal 7 = .ok (.iconst 1, 1) := by decide +kernel
theorem dX8_refusal_8 : decode cX8_refusal 8 = .ok (.ireturn, 1) := by decide +kernel
theorem dX8_refusal_9 : decode cX8_refusal 9 = .ok (.aload_n 0, 1) := by decide +kernel
theorem dX8_refusal_10 : decode cX8_refusal 10 = .ok (.invokevirtual 109, 3) := by decide +kernel
theorem dX8_refusal_13 : decode cX8_refusal 13 = .ok (.ifCond .ne 7, 3) := by decide +kernel
theorem dX8_refusal_16 : decode cX8_refusal 16 = .ok (.iconst 2, 1) := by decide +kernel
theorem dX8_refusal_17 : decode cX8_refusal 17 = .ok (.goto 31, 3) := by decide +kernel
theorem dX8_refusal_20 : decode cX8_refusal 20 = .ok (.aload_n 0, 1) := by decide +kernel
theorem dX8_refusal_21 : decode cX8_refusal 21 = .ok (.invokevirtual 112, 3) := by decide +kernel
theorem dX8_refusal_24 : decode cX8_refusal 24 = .ok (.iconst 4, 1) := by decide +kernel
theorem dX8_refusal_25 : decode cX8_refusal 25 = .ok (.if_icmp .le 7, 3) := by decide +kernel
theorem dX8_refusal_28 : decode cX8_refusal 28 = .ok (.iconst 3, 1) := by decide +kernel
theorem dX8_refusal_29 : decode cX8_refusal 29 = .ok (.goto 19, 3) := by decide +kernel
theorem dX8_refusal_32 : decode cX8_refusal 32 = .ok (.aload_n 0, 1) := by decide +kernel
theorem dX8_refusal_33 : decode cX8_refusal 33 = .ok (.getfield 9, 3) := by decide +kernel
theorem dX8_refusal_36 : decode cX8_refusal 36 = .ok (.iconst 0, 1) := by decide +kernel
theorem dX8_refusal_37 : decode cX8_refusal 37 = .ok (.iaload, 1) := by decide +kernel
theorem dX8_refusal_38 : decode cX8_refusal 38 = .ok (.bipush 24, 2) := by decide +kernel
theorem dX8_refusal_40 : decode cX8_refusal 40 = .ok (.if_icmp .ne 7, 3) := by decide +kernel
theorem dX8_refusal_43 : decode cX8_refusal 43 = .ok (.iconst 4, 1) := by decide +kernel
theorem dX8_refusal_44 : decode cX8_refusal 44 = .ok (.goto 4, 3) := by decide +kernel
theorem dX8_refusal_47 : decode cX8_refusal 47 = .ok (.iconst 0, 1) := by decide +kernel
theorem dX8_refusal_48 : decode cX8_refusal 48 = .ok (.ireturn, 1) := by decide +kernel
theorem dX8_findShares_0 : decode cX8_findShares 0 = .ok (.sipush 1000, 3) := by decide +kernel
theorem dX8_findShares_3 : decode cX8_findShares 3 = .ok (.istore_n 2, 1) := by decide +kernel
theorem dX8_findShares_4 : decode cX8_findShares 4 = .ok (.iconst 0, 1) := by decide +kernel
theorem dX8_findShares_5 : decode cX8_findShares 5 = .ok (.istore_n 3, 1) := by decide +kernel
theorem dX8_findShares_6 : decode cX8_findShares 6 = .ok (.iload_n 3, 1) := by decide +kernel
theorem dX8_findShares_7 : decode cX8_findShares 7 = .ok (.aload_n 0, 1) := by decide +kernel
theorem dX8_findShares_8 : decode cX8_findShares 8 = .ok (.getfield 9, 3) := by decide +kernel
theorem dX8_findShares_11 : decode cX8_findShares 11 = .ok (.iconst 1, 1) := by decide +kernel
theorem dX8_findShares_12 : decode cX8_findShares 12 = .ok (.iaload, 1) := by decide +kernel
theorem dX8_findShares_13 : decode cX8_findShares 13 = .ok (.if_icmp .ge 110, 3) := by decide +kernel
theorem dX8_findShares_16 : decode cX8_findShares 16 = .ok (.iconst 0, 1) := by decide +kernel
theorem dX8_findShares_17 : decode cX8_findShares 17 = .ok (.istore 4, 2) := by decide +kernel
theorem dX8_findShares_19 : decode cX8_findShares 19 = .ok (.iconst 0, 1) := by decide +kernel
theorem dX8_findShares_20 : decode cX8_findShares 20 = .ok (.istore 5, 2) := by decide +kernel
theorem dX8_findShares_22 : decode cX8_findShares 22 = .ok (.iload 5, 2) := by decide +kernel
theorem dX8_findShares_24 : decode cX8_findShares 24 = .ok (.aload_n 0, 1) := by decide +kernel
theorem dX8_findShares_25 : decode cX8_findShares 25 = .ok (.iload_n 1, 1) := by decide +kernel
theorem dX8_findShares_26 : decode cX8_findShares 26 = .ok (.iconst 2, 1) := by decide +kernel
theorem dX8_findShares_27 : decode cX8_findShares 27 = .ok (.invokevirtual 102, 3) := by decide +kernel
theorem dX8_findShares_30 : decode cX8_findShares 30 = .ok (.if_icmp .ge 42, 3) := by decide +kernel
theorem dX8_findShares_33 : decode cX8_findShares 33 = .ok (.iload 4, 2) := by decide +kernel
theorem dX8_findShares_35 : decode cX8_findShares 35 = .ok (.aload_n 0, 1) := by decide +kernel
theorem dX8_findShares_36 : decode cX8_findShares 36 = .ok (.iload_n 1, 1) := by decide +kernel
theorem dX8_findShares_37 : decode cX8_findShares 37 = .ok (.bipush 9, 2) := by decide +kernel
theorem dX8_findShares_39 : decode cX8_findShares 39 = .ok (.iload 5, 2) := by decide +kernel
theorem dX8_findShares_41 : decode cX8_findShares 41 = .ok (.iadd, 1) := by decide +kernel
theorem dX8_findShares_42 : decode cX8_findShares 42 = .ok (.invokevirtual 102, 3) := by decide +kernel
theorem dX8_findShares_45 : decode cX8_findShares 45 = .ok (.aload_n 0, 1) := by decide +kernel
theorem dX8_findShares_46 : decode cX8_findShares 46 = .ok (.aload_n 0, 1) := by decide +kernel
theorem dX8_findShares_47 : decode cX8_findShares 47 = .ok (.iload_n 1, 1) := by decide +kernel
theorem dX8_findShares_48 : decode cX8_findShares 48 = .ok (.iconst 5, 1) := by decide +kernel
theorem dX8_findShares_49 : decode cX8_findShares 49 = .ok (.iload 5, 2) := by decide +kernel
theorem dX8_findShares_51 : decode cX8_findShares 51 = .ok (.iadd, 1) := by decide +kernel
theorem dX8_findShares_52 : decode cX8_findShares 52 = .ok (.invokevirtual 102, 3) := by decide +kernel
theorem dX8_findShares_55 : decode cX8_findShares 55 = .ok (.bipush 13, 2) := by decide +kernel
theorem dX8_findShares_57 : decode cX8_findShares 57 = .ok (.iload_n 3, 1) := by decide +kernel
theorem dX8_findShares_58 : decode cX8_findShares 58 = .ok (.iadd, 1) := by decide +kernel
theorem dX8_findShares_59 : decode cX8_findShares 59 = .ok (.invokevirtual 102, 3) := by decide +kernel
theorem dX8_findShares_62 : decode cX8_findShares 62 = .ok (.imul, 1) := by decide +kernel
theorem dX8_findShares_63 : decode cX8_findShares 63 = .ok (.iadd, 1) := by decide +kernel
theorem dX8_findShares_64 : decode cX8_findShares 64 = .ok (.istore 4, 2) := by decide +kernel
theorem dX8_findShares_66 : decode cX8_findShares 66 = .ok (.iinc 5 1, 3) := by decide +kernel
theorem dX8_findShares_69 : decode cX8_findShares 69 = .ok (.goto (-47), 3) := by decide +kernel
theorem dX8_findShares_72 : decode cX8_findShares 72 = .ok (.aload_n 0, 1) := by decide +kernel
theorem dX8_findShares_73 : decode cX8_findShares 73 = .ok (.iload_n 1, 1) := by decide +kernel
theorem dX8_findShares_74 : decode cX8_findShares 74 = .ok (.bipush 13, 2) := by decide +kernel
theorem dX8_findShares_76 : decode cX8_findShares 76 = .ok (.iload_n 3, 1) := by decide +kernel
theorem dX8_findShares_77 : decode cX8_findShares 77 = .ok (.iadd, 1) := by decide +kernel
theorem dX8_findShares_78 : decode cX8_findShares 78 = .ok (.iload 4, 2) := by decide +kernel
theorem dX8_findShares_80 : decode cX8_findShares 80 = .ok (.aload_n 0, 1) := by decide +kernel
theorem dX8_findShares_81 : decode cX8_findShares 81 = .ok (.iload_n 1, 1) := by decide +kernel
theorem dX8_findShares_82 : decode cX8_findShares 82 = .ok (.iconst 0, 1) := by decide +kernel
theorem dX8_findShares_83 : decode cX8_findShares 83 = .ok (.invokevirtual 102, 3) := by decide +kernel
theorem dX8_findShares_86 : decode cX8_findShares 86 = .ok (.idiv, 1) := by decide +kernel
theorem dX8_findShares_87 : decode cX8_findShares 87 = .ok (.invokevirtual 59, 3) := by decide +kernel
theorem dX8_findShares_90 : decode cX8_findShares 90 = .ok (.aload_n 0, 1) := by decide +kernel
theorem dX8_findShares_91 : decode cX8_findShares 91 = .ok (.getfield 33, 3) := by decide +kernel
theorem dX8_findShares_94 : decode cX8_findShares 94 = .ok (.iload_n 3, 1) := by decide +kernel
theorem dX8_findShares_95 : decode cX8_findShares 95 = .ok (.iload 4, 2) := by decide +kernel
theorem dX8_findShares_97 : decode cX8_findShares 97 = .ok (.aload_n 0, 1) := by decide +kernel
theorem dX8_findShares_98 : decode cX8_findShares 98 = .ok (.iload_n 1, 1) := by decide +kernel
theorem dX8_findShares_99 : decode cX8_findShares 99 = .ok (.iconst 0, 1) := by decide +kernel
theorem dX8_findShares_100 : decode cX8_findShares 100 = .ok (.invokevirtual 102, 3) := by decide +kernel
theorem dX8_findShares_103 : decode cX8_findShares 103 = .ok (.irem, 1) := by decide +kernel
theorem dX8_findShares_104 : decode cX8_findShares 104 = .ok (.iastore, 1) := by decide +kernel
theorem dX8_findShares_105 : decode cX8_findShares 105 = .ok (.iload_n 2, 1) := by decide +kernel
theorem dX8_findShares_106 : decode cX8_findShares 106 = .ok (.aload_n 0, 1) := by decide +kernel
theorem dX8_findShares_107 : decode cX8_findShares 107 = .ok (.iload_n 1, 1) := by decide +kernel
theorem dX8_findShares_108 : decode cX8_findShares 108 = .ok (.bipush 13, 2) := by decide +kernel
theorem dX8_findShares_110 : decode cX8_findShares 110 = .ok (.iload_n 3, 1) := by decide +kernel
theorem dX8_findShares_111 : decode cX8_findShares 111 = .ok (.iadd, 1) := by decide +kernel
theorem dX8_findShares_112 : decode cX8_findShares 112 = .ok (.invokevirtual 102, 3) := by decide +kernel
theorem dX8_findShares_115 : decode cX8_findShares 115 = .ok (.isub, 1) := by decide +kernel
theorem dX8_findShares_116 : decode cX8_findShares 116 = .ok (.istore_n 2, 1) := by decide +kernel
theorem dX8_findShares_117 : decode cX8_findShares 117 = .ok (.iinc 3 1, 3) := by decide +kernel
theorem dX8_findShares_120 : decode cX8_findShares 120 = .ok (.goto (-114), 3) := by decide +kernel
theorem dX8_findShares_123 : decode cX8_findShares 123 = .ok (.iconst 0, 1) := by decide +kernel
theorem dX8_findShares_124 : decode cX8_findShares 124 = .ok (.istore_n 3, 1) := by decide +kernel
theorem dX8_findShares_125 : decode cX8_findShares 125 = .ok (.iload_n 3, 1) := by decide +kernel
theorem dX8_findShares_126 : decode cX8_findShares 126 = .ok (.iload_n 2, 1) := by decide +kernel
theorem dX8_findShares_127 : decode cX8_findShares 127 = .ok (.if_icmp .ge 88, 3) := by decide +kernel
theorem dX8_findShares_130 : decode cX8_findShares 130 = .ok (.iconst 0, 1) := by decide +kernel
theorem dX8_findShares_131 : decode cX8_findShares 131 = .ok (.istore 4, 2) := by decide +kernel
theorem dX8_findShares_133 : decode cX8_findShares 133 = .ok (.iconst 1, 1) := by decide +kernel
theorem dX8_findShares_134 : decode cX8_findShares 134 = .ok (.istore 5, 2) := by decide +kernel
theorem dX8_findShares_136 : decode cX8_findShares 136 = .ok (.iload 5, 2) := by decide +kernel
theorem dX8_findShares_138 : decode cX8_findShares 138 = .ok (.aload_n 0, 1) := by decide +kernel
theorem dX8_findShares_139 : decode cX8_findShares 139 = .ok (.getfield 9, 3) := by decide +kernel
theorem dX8_findShares_142 : decode cX8_findShares 142 = .ok (.iconst 1, 1) := by decide +kernel
theorem dX8_findShares_143 : decode cX8_findShares 143 = .ok (.iaload, 1) := by decide +kernel
theorem dX8_findShares_144 : decode cX8_findShares 144 = .ok (.if_icmp .ge 35, 3) := by decide +kernel
theorem dX8_findShares_147 : decode cX8_findShares 147 = .ok (.aload_n 0, 1) := by decide +kernel
theorem dX8_findShares_148 : decode cX8_findShares 148 = .ok (.getfield 33, 3) := by decide +kernel
theorem dX8_findShares_151 : decode cX8_findShares 151 = .ok (.iload 5, 2) := by decide +kernel
theorem dX8_findShares_153 : decode cX8_findShares 153 = .ok (.iaload, 1) := by decide +kernel
theorem dX8_findShares_154 : decode cX8_findShares 154 = .ok (.aload_n 0, 1) := by decide +kernel
theorem dX8_findShares_155 : decode cX8_findShares 155 = .ok (.getfield 33, 3) := by decide +kernel
theorem dX8_findShares_158 : decode cX8_findShares 158 = .ok (.iload 4, 2) := by decide +kernel
theorem dX8_findShares_160 : decode cX8_findShares 160 = .ok (.iaload, 1) := by decide +kernel
theorem dX8_findShares_161 : decode cX8_findShares 161 = .ok (.if_icmp .le 8, 3) := by decide +kernel
theorem dX8_findShares_164 : decode cX8_findShares 164 = .ok (.iload 5, 2) := by decide +kernel
theorem dX8_findShares_166 : decode cX8_findShares 166 = .ok (.goto 5, 3) := by decide +kernel
theorem dX8_findShares_169 : decode cX8_findShares 169 = .ok (.iload 4, 2) := by decide +kernel
theorem dX8_findShares_171 : decode cX8_findShares 171 = .ok (.istore 4, 2) := by decide +kernel
theorem dX8_findShares_173 : decode cX8_findShares 173 = .ok (.iinc 5 1, 3) := by decide +kernel
theorem dX8_findShares_176 : decode cX8_findShares 176 = .ok (.goto (-40), 3) := by decide +kernel
theorem dX8_findShares_179 : decode cX8_findShares 179 = .ok (.aload_n 0, 1) := by decide +kernel
theorem dX8_findShares_180 : decode cX8_findShares 180 = .ok (.iload_n 1, 1) := by decide +kernel
theorem dX8_findShares_181 : decode cX8_findShares 181 = .ok (.bipush 13, 2) := by decide +kernel
theorem dX8_findShares_183 : decode cX8_findShares 183 = .ok (.iload 4, 2) := by decide +kernel
theorem dX8_findShares_185 : decode cX8_findShares 185 = .ok (.iadd, 1) := by decide +kernel
theorem dX8_findShares_186 : decode cX8_findShares 186 = .ok (.aload_n 0, 1) := by decide +kernel
theorem dX8_findShares_187 : decode cX8_findShares 187 = .ok (.iload_n 1, 1) := by decide +kernel
theorem dX8_findShares_188 : decode cX8_findShares 188 = .ok (.bipush 13, 2) := by decide +kernel
theorem dX8_findShares_190 : decode cX8_findShares 190 = .ok (.iload 4, 2) := by decide +kernel
theorem dX8_findShares_192 : decode cX8_findShares 192 = .ok (.iadd, 1) := by decide +kernel
theorem dX8_findShares_193 : decode cX8_findShares 193 = .ok (.invokevirtual 102, 3) := by decide +kernel
theorem dX8_findShares_196 : decode cX8_findShares 196 = .ok (.iconst 1, 1) := by decide +kernel
theorem dX8_findShares_197 : decode cX8_findShares 197 = .ok (.iadd, 1) := by decide +kernel
theorem dX8_findShares_198 : decode cX8_findShares 198 = .ok (.invokevirtual 59, 3) := by decide +kernel
theorem dX8_findShares_201 : decode cX8_findShares 201 = .ok (.aload_n 0, 1) := by decide +kernel
theorem dX8_findShares_202 : decode cX8_findShares 202 = .ok (.getfield 33, 3) := by decide +kernel
theorem dX8_findShares_205 : decode cX8_findShares 205 = .ok (.iload 4, 2) := by decide +kernel
theorem dX8_findShares_207 : decode cX8_findShares 207 = .ok (.iconst (-1), 1) := by decide +kernel
theorem dX8_findShares_208 : decode cX8_findShares 208 = .ok (.iastore, 1) := by decide +kernel
theorem dX8_findShares_209 : decode cX8_findShares 209 = .ok (.iinc 3 1, 3) := by decide +kernel
theorem dX8_findShares_212 : decode cX8_findShares 212 = .ok (.goto (-87), 3) := by decide +kernel
theorem dX8_findShares_215 : decode cX8_findShares 215 = .ok (.return_, 1) := by decide +kernel
theorem dX8_blend_0 : decode cX8_blend 0 = .ok (.aload_n 0, 1) := by decide +kernel
theorem dX8_blend_1 : decode cX8_blend 1 = .ok (.iconst 0, 1) := by decide +kernel
theorem dX8_blend_2 : decode cX8_blend 2 = .ok (.putfield 42, 3) := by decide +kernel
theorem dX8_blend_5 : decode cX8_blend 5 = .ok (.aload_n 0, 1) := by decide +kernel
theorem dX8_blend_6 : decode cX8_blend 6 = .ok (.aload_n 0, 1) := by decide +kernel
theorem dX8_blend_7 : decode cX8_blend 7 = .ok (.getfield 115, 3) := by decide +kernel
theorem dX8_blend_10 : decode cX8_blend 10 = .ok (.putfield 77, 3) := by decide +kernel
theorem dX8_blend_13 : decode cX8_blend 13 = .ok (.aload_n 0, 1) := by decide +kernel
theorem dX8_blend_14 : decode cX8_blend 14 = .ok (.iconst 0, 1) := by decide +kernel
theorem dX8_blend_15 : decode cX8_blend 15 = .ok (.putfield 115, 3) := by decide +kernel
theorem dX8_blend_18 : decode cX8_blend 18 = .ok (.aload_n 0, 1) := by decide +kernel
theorem dX8_blend_19 : decode cX8_blend 19 = .ok (.invokevirtual 118, 3) := by decide +kernel
theorem dX8_blend_22 : decode cX8_blend 22 = .ok (.aload_n 0, 1) := by decide +kernel
theorem dX8_blend_23 : decode cX8_blend 23 = .ok (.getfield 70, 3) := by decide +kernel
theorem dX8_blend_26 : decode cX8_blend 26 = .ok (.ifCond .eq 17, 3) := by decide +kernel
theorem dX8_blend_29 : decode cX8_blend 29 = .ok (.aload_n 0, 1) := by decide +kernel
theorem dX8_blend_30 : decode cX8_blend 30 = .ok (.aload_n 0, 1) := by decide +kernel
theorem dX8_blend_31 : decode cX8_blend 31 = .ok (.getfield 74, 3) := by decide +kernel
theorem dX8_blend_34 : decode cX8_blend 34 = .ok (.putfield 19, 3) := by decide +kernel
theorem dX8_blend_37 : decode cX8_blend 37 = .ok (.aload_n 0, 1) := by decide +kernel
theorem dX8_blend_38 : decode cX8_blend 38 = .ok (.iconst 1, 1) := by decide +kernel
theorem dX8_blend_39 : decode cX8_blend 39 = .ok (.invokevirtual 48, 3) := by decide +kernel
theorem dX8_blend_42 : decode cX8_blend 42 = .ok (.ireturn, 1) := by decide +kernel
theorem dX8_blend_43 : decode cX8_blend 43 = .ok (.aload_n 0, 1) := by decide +kernel
theorem dX8_blend_44 : decode cX8_blend 44 = .ok (.invokevirtual 121, 3) := by decide +kernel
theorem dX8_blend_47 : decode cX8_blend 47 = .ok (.ifCond .eq 9, 3) := by decide +kernel
theorem dX8_blend_50 : decode cX8_blend 50 = .ok (.aload_n 0, 1) := by decide +kernel
theorem dX8_blend_51 : decode cX8_blend 51 = .ok (.iconst 1, 1) := by decide +kernel
theorem dX8_blend_52 : decode cX8_blend 52 = .ok (.invokevirtual 48, 3) := by decide +kernel
theorem dX8_blend_55 : decode cX8_blend 55 = .ok (.ireturn, 1) := by decide +kernel
theorem dX8_blend_56 : decode cX8_blend 56 = .ok (.aload_n 0, 1) := by decide +kernel
theorem dX8_blend_57 : decode cX8_blend 57 = .ok (.invokevirtual 124, 3) := by decide +kernel
theorem dX8_blend_60 : decode cX8_blend 60 = .ok (.istore_n 1, 1) := by decide +kernel
theorem dX8_blend_61 : decode cX8_blend 61 = .ok (.iload_n 1, 1) := by decide +kernel
theorem dX8_blend_62 : decode cX8_blend 62 = .ok (.ifCond .eq 10, 3) := by decide +kernel
theorem dX8_blend_65 : decode cX8_blend 65 = .ok (.aload_n 0, 1) := by decide +kernel
theorem dX8_blend_66 : decode cX8_blend 66 = .ok (.iconst 2, 1) := by decide +kernel
theorem dX8_blend_67 : decode cX8_blend 67 = .ok (.iload_n 1, 1) := by decide +kernel
theorem dX8_blend_68 : decode cX8_blend 68 = .ok (.invokevirtual 127, 3) := by decide +kernel
theorem dX8_blend_71 : decode cX8_blend 71 = .ok (.ireturn, 1) := by decide +kernel
theorem dX8_blend_72 : decode cX8_blend 72 = .ok (.aload_n 0, 1) := by decide +kernel
theorem dX8_blend_73 : decode cX8_blend 73 = .ok (.invokevirtual 63, 3) := by decide +kernel
theorem dX8_blend_76 : decode cX8_blend 76 = .ok (.iconst 0, 1) := by decide +kernel
theorem dX8_blend_77 : decode cX8_blend 77 = .ok (.istore_n 2, 1) := by decide +kernel
theorem dX8_blend_78 : decode cX8_blend 78 = .ok (.iconst 0, 1) := by decide +kernel
theorem dX8_blend_79 : decode cX8_blend 79 = .ok (.istore_n 3, 1) := by decide +kernel
theorem dX8_blend_80 : decode cX8_blend 80 = .ok (.iload_n 3, 1) := by decide +kernel
theorem dX8_blend_81 : decode cX8_blend 81 = .ok (.aload_n 0, 1) := by decide +kernel
theorem dX8_blend_82 : decode cX8_blend 82 = .ok (.getfield 92, 3) := by decide +kernel
theorem dX8_blend_85 : decode cX8_blend 85 = .ok (.if_icmp .ge 47, 3) := by decide +kernel
theorem dX8_blend_88 : decode cX8_blend 88 = .ok (.iload_n 2, 1) := by decide +kernel
theorem dX8_blend_89 : decode cX8_blend 89 = .ok (.aload_n 0, 1) := by decide +kernel
theorem dX8_blend_90 : decode cX8_blend 90 = .ok (.getfield 30, 3) := by decide +kernel
theorem dX8_blend_93 : decode cX8_blend 93 = .ok (.iload_n 3, 1) := by decide +kernel
theorem dX8_blend_94 : decode cX8_blend 94 = .ok (.iaload, 1) := by decide +kernel
theorem dX8_blend_95 : decode cX8_blend 95 = .ok (.iadd, 1) := by decide +kernel
theorem dX8_blend_96 : decode cX8_blend 96 = .ok (.istore_n 2, 1) := by decide +kernel
theorem dX8_blend_97 : decode cX8_blend 97 = .ok (.aload_n 0, 1) := by decide +kernel
theorem dX8_blend_98 : decode cX8_blend 98 = .ok (.aload_n 0, 1) := by decide +kernel
theorem dX8_blend_99 : decode cX8_blend 99 = .ok (.getfield 27, 3) := by decide +kernel
theorem dX8_blend_102 : decode cX8_blend 102 = .ok (.iload_n 3, 1) := by decide +kernel
theorem dX8_blend_103 : decode cX8_blend 103 = .ok (.iaload, 1) := by decide +kernel
theorem dX8_blend_104 : decode cX8_blend 104 = .ok (.iconst 1, 1) := by decide +kernel
theorem dX8_blend_105 : decode cX8_blend 105 = .ok (.aload_n 0, 1) := by decide +kernel
theorem dX8_blend_106 : decode cX8_blend 106 = .ok (.aload_n 0, 1) := by decide +kernel
theorem dX8_blend_107 : decode cX8_blend 107 = .ok (.getfield 27, 3) := by decide +kernel
theorem dX8_blend_110 : decode cX8_blend 110 = .ok (.iload_n 3, 1) := by decide +kernel
theorem dX8_blend_111 : decode cX8_blend 111 = .ok (.iaload, 1) := by decide +kernel
theorem dX8_blend_112 : decode cX8_blend 112 = .ok (.iconst 1, 1) := by decide +kernel
theorem dX8_blend_113 : decode cX8_blend 113 = .ok (.invokevirtual 102, 3) := by decide +kernel
theorem dX8_blend_116 : decode cX8_blend 116 = .ok (.aload_n 0, 1) := by decide +kernel
theorem dX8_blend_117 : decode cX8_blend 117 = .ok (.getfield 30, 3) := by decide +kernel
theorem dX8_blend_120 : decode cX8_blend 120 = .ok (.iload_n 3, 1) := by decide +kernel
theorem dX8_blend_121 : decode cX8_blend 121 = .ok (.iaload, 1) := by decide +kernel
theorem dX8_blend_122 : decode cX8_blend 122 = .ok (.isub, 1) := by decide +kernel
theorem dX8_blend_123 : decode cX8_blend 123 = .ok (.invokevirtual 59, 3) := by decide +kernel
theorem dX8_blend_126 : decode cX8_blend 126 = .ok (.iinc 3 1, 3) := by decide +kernel
theorem dX8_blend_129 : decode cX8_blend 129 = .ok (.goto (-49), 3) := by decide +kernel
theorem dX8_blend_132 : decode cX8_blend 132 = .ok (.aload_n 0, 1) := by decide +kernel
theorem dX8_blend_133 : decode cX8_blend 133 = .ok (.iload_n 2, 1) := by decide +kernel
theorem dX8_blend_134 : decode cX8_blend 134 = .ok (.aload_n 0, 1) := by decide +kernel
theorem dX8_blend_135 : decode cX8_blend 135 = .ok (.invokevirtual 112, 3) := by decide +kernel
theorem dX8_blend_138 : decode cX8_blend 138 = .ok (.iconst (-1), 1) := by decide +kernel
theorem dX8_blend_139 : decode cX8_blend 139 = .ok (.invokevirtual 66, 3) := by decide +kernel
theorem dX8_blend_142 : decode cX8_blend 142 = .ok (.istore_n 3, 1) := by decide +kernel
theorem dX8_blend_143 : decode cX8_blend 143 = .ok (.aload_n 0, 1) := by decide +kernel
theorem dX8_blend_144 : decode cX8_blend 144 = .ok (.iload_n 3, 1) := by decide +kernel
theorem dX8_blend_145 : decode cX8_blend 145 = .ok (.iconst 2, 1) := by decide +kernel
theorem dX8_blend_146 : decode cX8_blend 146 = .ok (.aload_n 0, 1) := by decide +kernel
theorem dX8_blend_147 : decode cX8_blend 147 = .ok (.getfield 92, 3) := by decide +kernel
theorem dX8_blend_150 : decode cX8_blend 150 = .ok (.invokevirtual 59, 3) := by decide +kernel
theorem dX8_blend_153 : decode cX8_blend 153 = .ok (.iconst 0, 1) := by decide +kernel
theorem dX8_blend_154 : decode cX8_blend 154 = .ok (.istore 4, 2) := by decide +kernel
theorem dX8_blend_156 : decode cX8_blend 156 = .ok (.iload 4, 2) := by decide +kernel
theorem dX8_blend_158 : decode cX8_blend 158 = .ok (.aload_n 0, 1) := by decide +kernel
theorem dX8_blend_159 : decode cX8_blend 159 = .ok (.getfield 92, 3) := by decide +kernel
theorem dX8_blend_162 : decode cX8_blend 162 = .ok (.if_icmp .ge 42, 3) := by decide +kernel
theorem dX8_blend_165 : decode cX8_blend 165 = .ok (.aload_n 0, 1) := by decide +kernel
theorem dX8_blend_166 : decode cX8_blend 166 = .ok (.iload_n 3, 1) := by decide +kernel
theorem dX8_blend_167 : decode cX8_blend 167 = .ok (.iconst 5, 1) := by decide +kernel
theorem dX8_blend_168 : decode cX8_blend 168 = .ok (.iload 4, 2) := by decide +kernel
theorem dX8_blend_170 : decode cX8_blend 170 = .ok (.iadd, 1) := by decide +kernel
theorem dX8_blend_171 : decode cX8_blend 171 = .ok (.aload_n 0, 1) := by decide +kernel
theorem dX8_blend_172 : decode cX8_blend 172 = .ok (.getfield 27, 3) := by decide +kernel
theorem dX8_blend_175 : decode cX8_blend 175 = .ok (.iload 4, 2) := by decide +kernel
theorem dX8_blend_177 : decode cX8_blend 177 = .ok (.iaload, 1) := by decide +kernel
theorem dX8_blend_178 : decode cX8_blend 178 = .ok (.invokevirtual 59, 3) := by decide +kernel
theorem dX8_blend_181 : decode cX8_blend 181 = .ok (.aload_n 0, 1) := by decide +kernel
theorem dX8_blend_182 : decode cX8_blend 182 = .ok (.iload_n 3, 1) := by decide +kernel
theorem dX8_blend_183 : decode cX8_blend 183 = .ok (.bipush 9, 2) := by decide +kernel
theorem dX8_blend_185 : decode cX8_blend 185 = .ok (.iload 4, 2) := by decide +kernel
theorem dX8_blend_187 : decode cX8_blend 187 = .ok (.iadd, 1) := by decide +kernel
theorem dX8_blend_188 : decode cX8_blend 188 = .ok (.aload_n 0, 1) := by decide +kernel
theorem dX8_blend_189 : decode cX8_blend 189 = .ok (.getfield 30, 3) := by decide +kernel
theorem dX8_blend_192 : decode cX8_blend 192 = .ok (.iload 4, 2) := by decide +kernel
theorem dX8_blend_194 : decode cX8_blend 194 = .ok (.iaload, 1) := by decide +kernel
theorem dX8_blend_195 : decode cX8_blend 195 = .ok (.invokevirtual 59, 3) := by decide +kernel
theorem dX8_blend_198 : decode cX8_blend 198 = .ok (.iinc 4 1, 3) := by decide +kernel
theorem dX8_blend_201 : decode cX8_blend 201 = .ok (.goto (-45), 3) := by decide +kernel
theorem dX8_blend_204 : decode cX8_blend 204 = .ok (.aload_n 0, 1) := by decide +kernel
theorem dX8_blend_205 : decode cX8_blend 205 = .ok (.iload_n 3, 1) := by decide +kernel
theorem dX8_blend_206 : decode cX8_blend 206 = .ok (.invokevirtual 130, 3) := by decide +kernel
theorem dX8_blend_209 : decode cX8_blend 209 = .ok (.iload_n 3, 1) := by decide +kernel
theorem dX8_blend_210 : decode cX8_blend 210 = .ok (.ireturn, 1) := by decide +kernel
theorem dX8_spill_0 : decode cX8_spill 0 = .ok (.aload_n 0, 1) := by decide +kernel
theorem dX8_spill_1 : decode cX8_spill 1 = .ok (.iconst 0, 1) := by decide +kernel
theorem dX8_spill_2 : decode cX8_spill 2 = .ok (.putfield 42, 3) := by decide +kernel
theorem dX8_spill_5 : decode cX8_spill 5 = .ok (.aload_n 0, 1) := by decide +kernel
theorem dX8_spill_6 : decode cX8_spill 6 = .ok (.iload_n 1, 1) := by decide +kernel
theorem dX8_spill_7 : decode cX8_spill 7 = .ok (.invokevirtual 98, 3) := by decide +kernel
theorem dX8_spill_10 : decode cX8_spill 10 = .ok (.ifCond .ne 9, 3) := by decide +kernel
theorem dX8_spill_13 : decode cX8_spill 13 = .ok (.aload_n 0, 1) := by decide +kernel
theorem dX8_spill_14 : decode cX8_spill 14 = .ok (.iconst 1, 1) := by decide +kernel
theorem dX8_spill_15 : decode cX8_spill 15 = .ok (.invokevirtual 48, 3) := by decide +kernel
theorem dX8_spill_18 : decode cX8_spill 18 = .ok (.ireturn, 1) := by decide +kernel
theorem dX8_spill_19 : decode cX8_spill 19 = .ok (.iload_n 2, 1) := by decide +kernel
theorem dX8_spill_20 : decode cX8_spill 20 = .ok (.iconst 1, 1) := by decide +kernel
theorem dX8_spill_21 : decode cX8_spill 21 = .ok (.sipush 9999, 3) := by decide +kernel
theorem dX8_spill_24 : decode cX8_spill 24 = .ok (.invokestatic 55, 3) := by decide +kernel
theorem dX8_spill_27 : decode cX8_spill 27 = .ok (.ifCond .eq 13, 3) := by decide +kernel
theorem dX8_spill_30 : decode cX8_spill 30 = .ok (.iload_n 2, 1) := by decide +kernel
theorem dX8_spill_31 : decode cX8_spill 31 = .ok (.aload_n 0, 1) := by decide +kernel
theorem dX8_spill_32 : decode cX8_spill 32 = .ok (.iload_n 1, 1) := by decide +kernel
theorem dX8_spill_33 : decode cX8_spill 33 = .ok (.iconst 1, 1) := by decide +kernel
theorem dX8_spill_34 : decode cX8_spill 34 = .ok (.invokevirtual 102, 3) := by decide +kernel
theorem dX8_spill_37 : decode cX8_spill 37 = .ok (.if_icmp .le 9, 3) := by decide +kernel
theorem dX8_spill_40 : decode cX8_spill 40 = .ok (.aload_n 0, 1) := by decide +kernel
theorem dX8_spill_41 : decode cX8_spill 41 = .ok (.iconst 2, 1) := by decide +kernel
theorem dX8_spill_42 : decode cX8_spill 42 = .ok (.invokevirtual 48, 3) := by decide +kernel
theorem dX8_spill_45 : decode cX8_spill 45 = .ok (.ireturn, 1) := by decide +kernel
theorem dX8_spill_46 : decode cX8_spill 46 = .ok (.aload_n 0, 1) := by decide +kernel
theorem dX8_spill_47 : decode cX8_spill 47 = .ok (.invokevirtual 63, 3) := by decide +kernel
theorem dX8_spill_50 : decode cX8_spill 50 = .ok (.aload_n 0, 1) := by decide +kernel
theorem dX8_spill_51 : decode cX8_spill 51 = .ok (.iload_n 1, 1) := by decide +kernel
theorem dX8_spill_52 : decode cX8_spill 52 = .ok (.iconst 1, 1) := by decide +kernel
theorem dX8_spill_53 : decode cX8_spill 53 = .ok (.aload_n 0, 1) := by decide +kernel
theorem dX8_spill_54 : decode cX8_spill 54 = .ok (.iload_n 1, 1) := by decide +kernel
theorem dX8_spill_55 : decode cX8_spill 55 = .ok (.iconst 1, 1) := by decide +kernel
theorem dX8_spill_56 : decode cX8_spill 56 = .ok (.invokevirtual 102, 3) := by decide +kernel
theorem dX8_spill_59 : decode cX8_spill 59 = .ok (.iload_n 2, 1) := by decide +kernel
theorem dX8_spill_60 : decode cX8_spill 60 = .ok (.isub, 1) := by decide +kernel
theorem dX8_spill_61 : decode cX8_spill 61 = .ok (.invokevirtual 59, 3) := by decide +kernel
theorem dX8_spill_64 : decode cX8_spill 64 = .ok (.aload_n 0, 1) := by decide +kernel
theorem dX8_spill_65 : decode cX8_spill 65 = .ok (.getfield 9, 3) := by decide +kernel
theorem dX8_spill_68 : decode cX8_spill 68 = .ok (.iconst 4, 1) := by decide +kernel
theorem dX8_spill_69 : decode cX8_spill 69 = .ok (.dup2, 1) := by decide +kernel
theorem dX8_spill_70 : decode cX8_spill 70 = .ok (.iaload, 1) := by decide +kernel
theorem dX8_spill_71 : decode cX8_spill 71 = .ok (.iload_n 2, 1) := by decide +kernel
theorem dX8_spill_72 : decode cX8_spill 72 = .ok (.iadd, 1) := by decide +kernel
theorem dX8_spill_73 : decode cX8_spill 73 = .ok (.iastore, 1) := by decide +kernel
theorem dX8_spill_74 : decode cX8_spill 74 = .ok (.aload_n 0, 1) := by decide +kernel
theorem dX8_spill_75 : decode cX8_spill 75 = .ok (.iload_n 1, 1) := by decide +kernel
theorem dX8_spill_76 : decode cX8_spill 76 = .ok (.iconst 1, 1) := by decide +kernel
theorem dX8_spill_77 : decode cX8_spill 77 = .ok (.invokevirtual 102, 3) := by decide +kernel
theorem dX8_spill_80 : decode cX8_spill 80 = .ok (.ireturn, 1) := by decide +kernel
theorem dX8_isPartOf_0 : decode cX8_isPartOf 0 = .ok (.iconst 0, 1) := by decide +kernel
theorem dX8_isPartOf_1 : decode cX8_isPartOf 1 = .ok (.istore_n 3, 1) := by decide +kernel
theorem dX8_isPartOf_2 : decode cX8_isPartOf 2 = .ok (.iconst 0, 1) := by decide +kernel
theorem dX8_isPartOf_3 : decode cX8_isPartOf 3 = .ok (.istore 4, 2) := by decide +kernel
theorem dX8_isPartOf_5 : decode cX8_isPartOf 5 = .ok (.iload 4, 2) := by decide +kernel
theorem dX8_isPartOf_7 : decode cX8_isPartOf 7 = .ok (.aload_n 0, 1) := by decide +kernel
theorem dX8_isPartOf_8 : decode cX8_isPartOf 8 = .ok (.iload_n 2, 1) := by decide +kernel
theorem dX8_isPartOf_9 : decode cX8_isPartOf 9 = .ok (.iconst 2, 1) := by decide +kernel
theorem dX8_isPartOf_10 : decode cX8_isPartOf 10 = .ok (.invokevirtual 102, 3) := by decide +kernel
theorem dX8_isPartOf_13 : decode cX8_isPartOf 13 = .ok (.if_icmp .ge 32, 3) := by decide +kernel
theorem dX8_isPartOf_16 : decode cX8_isPartOf 16 = .ok (.iload_n 3, 1) := by decide +kernel
theorem dX8_isPartOf_17 : decode cX8_isPartOf 17 = .ok (.ifCond .ne 16, 3) := by decide +kernel
theorem dX8_isPartOf_20 : decode cX8_isPartOf 20 = .ok (.aload_n 0, 1) := by decide +kernel
theorem dX8_isPartOf_21 : decode cX8_isPartOf 21 = .ok (.iload_n 2, 1) := by decide +kernel
theorem dX8_isPartOf_22 : decode cX8_isPartOf 22 = .ok (.iconst 5, 1) := by decide +kernel
theorem dX8_isPartOf_23 : decode cX8_isPartOf 23 = .ok (.iload 4, 2) := by decide +kernel
theorem dX8_isPartOf_25 : decode cX8_isPartOf 25 = .ok (.iadd, 1) := by decide +kernel
theorem dX8_isPartOf_26 : decode cX8_isPartOf 26 = .ok (.invokevirtual 102, 3) := by decide +kernel
theorem dX8_isPartOf_29 : decode cX8_isPartOf 29 = .ok (.iload_n 1, 1) := by decide +kernel
theorem dX8_isPartOf_30 : decode cX8_isPartOf 30 = .ok (.if_icmp .ne 7, 3) := by decide +kernel
theorem dX8_isPartOf_33 : decode cX8_isPartOf 33 = .ok (.iconst 1, 1) := by decide +kernel
theorem dX8_isPartOf_34 : decode cX8_isPartOf 34 = .ok (.goto 4, 3) := by decide +kernel
theorem dX8_isPartOf_37 : decode cX8_isPartOf 37 = .ok (.iconst 0, 1) := by decide +kernel
theorem dX8_isPartOf_38 : decode cX8_isPartOf 38 = .ok (.istore_n 3, 1) := by decide +kernel
theorem dX8_isPartOf_39 : decode cX8_isPartOf 39 = .ok (.iinc 4 1, 3) := by decide +kernel
theorem dX8_isPartOf_42 : decode cX8_isPartOf 42 = .ok (.goto (-37), 3) := by decide +kernel
theorem dX8_isPartOf_45 : decode cX8_isPartOf 45 = .ok (.iload_n 3, 1) := by decide +kernel
theorem dX8_isPartOf_46 : decode cX8_isPartOf 46 = .ok (.ireturn, 1) := by decide +kernel
theorem dX8_blendsOf_0 : decode cX8_blendsOf 0 = .ok (.iconst 0, 1) := by decide +kernel
theorem dX8_blendsOf_1 : decode cX8_blendsOf 1 = .ok (.istore_n 2, 1) := by decide +kernel
theorem dX8_blendsOf_2 : decode cX8_blendsOf 2 = .ok (.iconst 0, 1) := by decide +kernel
theorem dX8_blendsOf_3 : decode cX8_blendsOf 3 = .ok (.istore_n 3, 1) := by decide +kernel
theorem dX8_blendsOf_4 : decode cX8_blendsOf 4 = .ok (.iload_n 3, 1) := by decide +kernel
theorem dX8_blendsOf_5 : decode cX8_blendsOf 5 = .ok (.aload_n 0, 1) := by decide +kernel
theorem dX8_blendsOf_6 : decode cX8_blendsOf 6 = .ok (.getfield 9, 3) := by decide +kernel
theorem dX8_blendsOf_9 : decode cX8_blendsOf 9 = .ok (.iconst 0, 1) := by decide +kernel
theorem dX8_blendsOf_10 : decode cX8_blendsOf 10 = .ok (.iaload, 1) := by decide +kernel
theorem dX8_blendsOf_11 : decode cX8_blendsOf 11 = .ok (.if_icmp .ge 26, 3) := by decide +kernel
theorem dX8_blendsOf_14 : decode cX8_blendsOf 14 = .ok (.iload_n 2, 1) := by decide +kernel
theorem dX8_blendsOf_15 : decode cX8_blendsOf 15 = .ok (.aload_n 0, 1) := by decide +kernel
theorem dX8_blendsOf_16 : decode cX8_blendsOf 16 = .ok (.iload_n 1, 1) := by decide +kernel
theorem dX8_blendsOf_17 : decode cX8_blendsOf 17 = .ok (.iload_n 3, 1) := by decide +kernel
theorem dX8_blendsOf_18 : decode cX8_blendsOf 18 = .ok (.invokevirtual 134, 3) := by decide +kernel
theorem dX8_blendsOf_21 : decode cX8_blendsOf 21 = .ok (.ifCond .eq 7, 3) := by decide +kernel
theorem dX8_blendsOf_24 : decode cX8_blendsOf 24 = .ok (.iconst 1, 1) := by decide +kernel
theorem dX8_blendsOf_25 : decode cX8_blendsOf 25 = .ok (.goto 4, 3) := by decide +kernel
theorem dX8_blendsOf_28 : decode cX8_blendsOf 28 = .ok (.iconst 0, 1) := by decide +kernel
theorem dX8_blendsOf_29 : decode cX8_blendsOf 29 = .ok (.iadd, 1) := by decide +kernel
theorem dX8_blendsOf_30 : decode cX8_blendsOf 30 = .ok (.istore_n 2, 1) := by decide +kernel
theorem dX8_blendsOf_31 : decode cX8_blendsOf 31 = .ok (.iinc 3 1, 3) := by decide +kernel
theorem dX8_blendsOf_34 : decode cX8_blendsOf 34 = .ok (.goto (-30), 3) := by decide +kernel
theorem dX8_blendsOf_37 : decode cX8_blendsOf 37 = .ok (.iload_n 2, 1) := by decide +kernel
theorem dX8_blendsOf_38 : decode cX8_blendsOf 38 = .ok (.ireturn, 1) := by decide +kernel
theorem dX8_harvestsIn_0 : decode cX8_harvestsIn 0 = .ok (.iconst 0, 1) := by decide +kernel
theorem dX8_harvestsIn_1 : decode cX8_harvestsIn 1 = .ok (.istore_n 2, 1) := by decide +kernel
theorem dX8_harvestsIn_2 : decode cX8_harvestsIn 2 = .ok (.iconst 0, 1) := by decide +kernel
theorem dX8_harvestsIn_3 : decode cX8_harvestsIn 3 = .ok (.istore_n 3, 1) := by decide +kernel
theorem dX8_harvestsIn_4 : decode cX8_harvestsIn 4 = .ok (.iload_n 3, 1) := by decide +kernel
theorem dX8_harvestsIn_5 : decode cX8_harvestsIn 5 = .ok (.aload_n 0, 1) := by decide +kernel
theorem dX8_harvestsIn_6 : decode cX8_harvestsIn 6 = .ok (.getfield 9, 3) := by decide +kernel
theorem dX8_harvestsIn_9 : decode cX8_harvestsIn 9 = .ok (.iconst 1, 1) := by decide +kernel
theorem dX8_harvestsIn_10 : decode cX8_harvestsIn 10 = .ok (.iaload, 1) := by decide +kernel
theorem dX8_harvestsIn_11 : decode cX8_harvestsIn 11 = .ok (.if_icmp .ge 29, 3) := by decide +kernel
theorem dX8_harvestsIn_14 : decode cX8_harvestsIn 14 = .ok (.iload_n 2, 1) := by decide +kernel
theorem dX8_harvestsIn_15 : decode cX8_harvestsIn 15 = .ok (.aload_n 0, 1) := by decide +kernel
theorem dX8_harvestsIn_16 : decode cX8_harvestsIn 16 = .ok (.iload_n 1, 1) := by decide +kernel
theorem dX8_harvestsIn_17 : decode cX8_harvestsIn 17 = .ok (.bipush 13, 2) := by decide +kernel
theorem dX8_harvestsIn_19 : decode cX8_harvestsIn 19 = .ok (.iload_n 3, 1) := by decide +kernel
theorem dX8_harvestsIn_20 : decode cX8_harvestsIn 20 = .ok (.iadd, 1) := by decide +kernel
theorem dX8_harvestsIn_21 : decode cX8_harvestsIn 21 = .ok (.invokevirtual 102, 3) := by decide +kernel
theorem dX8_harvestsIn_24 : decode cX8_harvestsIn 24 = .ok (.ifCond .le 7, 3) := by decide +kernel
theorem dX8_harvestsIn_27 : decode cX8_harvestsIn 27 = .ok (.iconst 1, 1) := by decide +kernel
theorem dX8_harvestsIn_28 : decode cX8_harvestsIn 28 = .ok (.goto 4, 3) := by decide +kernel
theorem dX8_harvestsIn_31 : decode cX8_harvestsIn 31 = .ok (.iconst 0, 1) := by decide +kernel
theorem dX8_harvestsIn_32 : decode cX8_harvestsIn 32 = .ok (.iadd, 1) := by decide +kernel
theorem dX8_harvestsIn_33 : decode cX8_harvestsIn 33 = .ok (.istore_n 2, 1) := by decide +kernel
theorem dX8_harvestsIn_34 : decode cX8_harvestsIn 34 = .ok (.iinc 3 1, 3) := by decide +kernel
theorem dX8_harvestsIn_37 : decode cX8_harvestsIn 37 = .ok (.goto (-33), 3) := by decide +kernel
theorem dX8_harvestsIn_40 : decode cX8_harvestsIn 40 = .ok (.iload_n 2, 1) := by decide +kernel
theorem dX8_harvestsIn_41 : decode cX8_harvestsIn 41 = .ok (.ireturn, 1) := by decide +kernel
theorem dX8_lot_0 : decode cX8_lot 0 = .ok (.aload_n 0, 1) := by decide +kernel
theorem dX8_lot_1 : decode cX8_lot 1 = .ok (.iconst 0, 1) := by decide +kernel
theorem dX8_lot_2 : decode cX8_lot 2 = .ok (.putfield 42, 3) := by decide +kernel
theorem dX8_lot_5 : decode cX8_lot 5 = .ok (.aload_n 0, 1) := by decide +kernel
theorem dX8_lot_6 : decode cX8_lot 6 = .ok (.iload_n 1, 1) := by decide +kernel
theorem dX8_lot_7 : decode cX8_lot 7 = .ok (.invokevirtual 98, 3) := by decide +kernel
theorem dX8_lot_10 : decode cX8_lot 10 = .ok (.ifCond .ne 9, 3) := by decide +kernel
theorem dX8_lot_13 : decode cX8_lot 13 = .ok (.aload_n 0, 1) := by decide +kernel
theorem dX8_lot_14 : decode cX8_lot 14 = .ok (.iconst 1, 1) := by decide +kernel
theorem dX8_lot_15 : decode cX8_lot 15 = .ok (.invokevirtual 48, 3) := by decide +kernel
theorem dX8_lot_18 : decode cX8_lot 18 = .ok (.ireturn, 1) := by decide +kernel
theorem dX8_lot_19 : decode cX8_lot 19 = .ok (.iload_n 2, 1) := by decide +kernel
theorem dX8_lot_20 : decode cX8_lot 20 = .ok (.iconst 0, 1) := by decide +kernel
theorem dX8_lot_21 : decode cX8_lot 21 = .ok (.iconst 4, 1) := by decide +kernel
theorem dX8_lot_22 : decode cX8_lot 22 = .ok (.invokestatic 55, 3) := by decide +kernel
theorem dX8_lot_25 : decode cX8_lot 25 = .ok (.ifCond .eq 10, 3) := by decide +kernel
theorem dX8_lot_28 : decode cX8_lot 28 = .ok (.aload_n 0, 1) := by decide +kernel
theorem dX8_lot_29 : decode cX8_lot 29 = .ok (.iload_n 1, 1) := by decide +kernel
theorem dX8_lot_30 : decode cX8_lot 30 = .ok (.iload_n 2, 1) := by decide +kernel
theorem dX8_lot_31 : decode cX8_lot 31 = .ok (.invokevirtual 102, 3) := by decide +kernel
theorem dX8_lot_34 : decode cX8_lot 34 = .ok (.ireturn, 1) := by decide +kernel
theorem dX8_lot_35 : decode cX8_lot 35 = .ok (.iload_n 2, 1) := by decide +kernel
theorem dX8_lot_36 : decode cX8_lot 36 = .ok (.iconst 5, 1) := by decide +kernel
theorem dX8_lot_37 : decode cX8_lot 37 = .ok (.if_icmp .ne 11, 3) := by decide +kernel
theorem dX8_lot_40 : decode cX8_lot 40 = .ok (.aload_n 0, 1) := by decide +kernel
theorem dX8_lot_41 : decode cX8_lot 41 = .ok (.iload_n 1, 1) := by decide +kernel
theorem dX8_lot_42 : decode cX8_lot 42 = .ok (.invokevirtual 138, 3) := by decide +kernel
theorem dX8_lot_45 : decode cX8_lot 45 = .ok (.goto 22, 3) := by decide +kernel
theorem dX8_lot_48 : decode cX8_lot 48 = .ok (.iload_n 2, 1) := by decide +kernel
theorem dX8_lot_49 : decode cX8_lot 49 = .ok (.bipush 6, 2) := by decide +kernel
theorem dX8_lot_51 : decode cX8_lot 51 = .ok (.if_icmp .ne 11, 3) := by decide +kernel
theorem dX8_lot_54 : decode cX8_lot 54 = .ok (.aload_n 0, 1) := by decide +kernel
theorem dX8_lot_55 : decode cX8_lot 55 = .ok (.iload_n 1, 1) := by decide +kernel
theorem dX8_lot_56 : decode cX8_lot 56 = .ok (.invokevirtual 141, 3) := by decide +kernel
theorem dX8_lot_59 : decode cX8_lot 59 = .ok (.goto 8, 3) := by decide +kernel
theorem dX8_lot_62 : decode cX8_lot 62 = .ok (.aload_n 0, 1) := by decide +kernel
theorem dX8_lot_63 : decode cX8_lot 63 = .ok (.iconst 2, 1) := by decide +kernel
theorem dX8_lot_64 : decode cX8_lot 64 = .ok (.invokevirtual 48, 3) := by decide +kernel
theorem dX8_lot_67 : decode cX8_lot 67 = .ok (.ireturn, 1) := by decide +kernel
theorem dX8_part_0 : decode cX8_part 0 = .ok (.aload_n 0, 1) := by decide +kernel
theorem dX8_part_1 : decode cX8_part 1 = .ok (.iconst 0, 1) := by decide +kernel
theorem dX8_part_2 : decode cX8_part 2 = .ok (.putfield 42, 3) := by decide +kernel
theorem dX8_part_5 : decode cX8_part 5 = .ok (.aload_n 0, 1) := by decide +kernel
theorem dX8_part_6 : decode cX8_part 6 = .ok (.iload_n 1, 1) := by decide +kernel
theorem dX8_part_7 : decode cX8_part 7 = .ok (.invokevirtual 98, 3) := by decide +kernel
theorem dX8_part_10 : decode cX8_part 10 = .ok (.ifCond .ne 9, 3) := by decide +kernel
theorem dX8_part_13 : decode cX8_part 13 = .ok (.aload_n 0, 1) := by decide +kernel
theorem dX8_part_14 : decode cX8_part 14 = .ok (.iconst 1, 1) := by decide +kernel
theorem dX8_part_15 : decode cX8_part 15 = .ok (.invokevirtual 48, 3) := by decide +kernel
theorem dX8_part_18 : decode cX8_part 18 = .ok (.ireturn, 1) := by decide +kernel
theorem dX8_part_19 : decode cX8_part 19 = .ok (.iload_n 2, 1) := by decide +kernel
theorem dX8_part_20 : decode cX8_part 20 = .ok (.iconst 0, 1) := by decide +kernel
theorem dX8_part_21 : decode cX8_part 21 = .ok (.aload_n 0, 1) := by decide +kernel
theorem dX8_part_22 : decode cX8_part 22 = .ok (.iload_n 1, 1) := by decide +kernel
theorem dX8_part_23 : decode cX8_part 23 = .ok (.iconst 2, 1) := by decide +kernel
theorem dX8_part_24 : decode cX8_part 24 = .ok (.invokevirtual 102, 3) := by decide +kernel
theorem dX8_part_27 : decode cX8_part 27 = .ok (.iconst 1, 1) := by decide +kernel
theorem dX8_part_28 : decode cX8_part 28 = .ok (.isub, 1) := by decide +kernel
theorem dX8_part_29 : decode cX8_part 29 = .ok (.invokestatic 55, 3) := by decide +kernel
theorem dX8_part_32 : decode cX8_part 32 = .ok (.ifCond .ne 9, 3) := by decide +kernel
theorem dX8_part_35 : decode cX8_part 35 = .ok (.aload_n 0, 1) := by decide +kernel
theorem dX8_part_36 : decode cX8_part 36 = .ok (.iconst 2, 1) := by decide +kernel
theorem dX8_part_37 : decode cX8_part 37 = .ok (.invokevirtual 48, 3) := by decide +kernel
theorem dX8_part_40 : decode cX8_part 40 = .ok (.ireturn, 1) := by decide +kernel
theorem dX8_part_41 : decode cX8_part 41 = .ok (.iload_n 3, 1) := by decide +kernel
theorem dX8_part_42 : decode cX8_part 42 = .ok (.ifCond .ne 14, 3) := by decide +kernel
theorem dX8_part_45 : decode cX8_part 45 = .ok (.aload_n 0, 1) := by decide +kernel
theorem dX8_part_46 : decode cX8_part 46 = .ok (.iload_n 1, 1) := by decide +kernel
theorem dX8_part_47 : decode cX8_part 47 = .ok (.iconst 5, 1) := by decide +kernel
theorem dX8_part_48 : decode cX8_part 48 = .ok (.iload_n 2, 1) := by decide +kernel
theorem dX8_part_49 : decode cX8_part 49 = .ok (.iadd, 1) := by decide +kernel
theorem dX8_part_50 : decode cX8_part 50 = .ok (.invokevirtual 102, 3) := by decide +kernel
theorem dX8_part_53 : decode cX8_part 53 = .ok (.goto 25, 3) := by decide +kernel
theorem dX8_part_56 : decode cX8_part 56 = .ok (.iload_n 3, 1) := by decide +kernel
theorem dX8_part_57 : decode cX8_part 57 = .ok (.iconst 1, 1) := by decide +kernel
theorem dX8_part_58 : decode cX8_part 58 = .ok (.if_icmp .ne 15, 3) := by decide +kernel
theorem dX8_part_61 : decode cX8_part 61 = .ok (.aload_n 0, 1) := by decide +kernel
theorem dX8_part_62 : decode cX8_part 62 = .ok (.iload_n 1, 1) := by decide +kernel
theorem dX8_part_63 : decode cX8_part 63 = .ok (.bipush 9, 2) := by decide +kernel
theorem dX8_part_65 : decode cX8_part 65 = .ok (.iload_n 2, 1) := by decide +kernel
theorem dX8_part_66 : decode cX8_part 66 = .ok (.iadd, 1) := by decide +kernel
theorem dX8_part_67 : decode cX8_part 67 = .ok (.invokevirtual 102, 3) := by decide +kernel
theorem dX8_part_70 : decode cX8_part 70 = .ok (.goto 8, 3) := by decide +kernel
theorem dX8_part_73 : decode cX8_part 73 = .ok (.aload_n 0, 1) := by decide +kernel
theorem dX8_part_74 : decode cX8_part 74 = .ok (.iconst 3, 1) := by decide +kernel
theorem dX8_part_75 : decode cX8_part 75 = .ok (.invokevirtual 48, 3) := by decide +kernel
theorem dX8_part_78 : decode cX8_part 78 = .ok (.ireturn, 1) := by decide +kernel
theorem dX8_shareOf_0 : decode cX8_shareOf 0 = .ok (.iconst 0, 1) := by decide +kernel
theorem dX8_shareOf_1 : decode cX8_shareOf 1 = .ok (.istore 4, 2) := by decide +kernel
theorem dX8_shareOf_3 : decode cX8_shareOf 3 = .ok (.iconst 0, 1) := by decide +kernel
theorem dX8_shareOf_4 : decode cX8_shareOf 4 = .ok (.istore 5, 2) := by decide +kernel
theorem dX8_shareOf_6 : decode cX8_shareOf 6 = .ok (.iload 5, 2) := by decide +kernel
theorem dX8_shareOf_8 : decode cX8_shareOf 8 = .ok (.aload_n 0, 1) := by decide +kernel
theorem dX8_shareOf_9 : decode cX8_shareOf 9 = .ok (.getfield 9, 3) := by decide +kernel
theorem dX8_shareOf_12 : decode cX8_shareOf 12 = .ok (.iconst 1, 1) := by decide +kernel
theorem dX8_shareOf_13 : decode cX8_shareOf 13 = .ok (.iaload, 1) := by decide +kernel
theorem dX8_shareOf_14 : decode cX8_shareOf 14 = .ok (.if_icmp .ge 39, 3) := by decide +kernel
theorem dX8_shareOf_17 : decode cX8_shareOf 17 = .ok (.iload 4, 2) := by decide +kernel
theorem dX8_shareOf_19 : decode cX8_shareOf 19 = .ok (.aload_n 0, 1) := by decide +kernel
theorem dX8_shareOf_20 : decode cX8_shareOf 20 = .ok (.iload 5, 2) := by decide +kernel
theorem dX8_shareOf_22 : decode cX8_shareOf 22 = .ok (.iload_n 2, 1) := by decide +kernel
theorem dX8_shareOf_23 : decode cX8_shareOf 23 = .ok (.invokevirtual 144, 3) := by decide +kernel
theorem dX8_shareOf_26 : decode cX8_shareOf 26 = .ok (.iload_n 3, 1) := by decide +kernel
theorem dX8_shareOf_27 : decode cX8_shareOf 27 = .ok (.if_icmp .ne 16, 3) := by decide +kernel
theorem dX8_shareOf_30 : decode cX8_shareOf 30 = .ok (.aload_n 0, 1) := by decide +kernel
theorem dX8_shareOf_31 : decode cX8_shareOf 31 = .ok (.iload_n 1, 1) := by decide +kernel
theorem dX8_shareOf_32 : decode cX8_shareOf 32 = .ok (.bipush 13, 2) := by decide +kernel
theorem dX8_shareOf_34 : decode cX8_shareOf 34 = .ok (.iload 5, 2) := by decide +kernel
theorem dX8_shareOf_36 : decode cX8_shareOf 36 = .ok (.iadd, 1) := by decide +kernel
theorem dX8_shareOf_37 : decode cX8_shareOf 37 = .ok (.invokevirtual 102, 3) := by decide +kernel
theorem dX8_shareOf_40 : decode cX8_shareOf 40 = .ok (.goto 4, 3) := by decide +kernel
theorem dX8_shareOf_43 : decode cX8_shareOf 43 = .ok (.iconst 0, 1) := by decide +kernel
theorem dX8_shareOf_44 : decode cX8_shareOf 44 = .ok (.iadd, 1) := by decide +kernel
theorem dX8_shareOf_45 : decode cX8_shareOf 45 = .ok (.istore 4, 2) := by decide +kernel
theorem dX8_shareOf_47 : decode cX8_shareOf 47 = .ok (.iinc 5 1, 3) := by decide +kernel
theorem dX8_shareOf_50 : decode cX8_shareOf 50 = .ok (.goto (-44), 3) := by decide +kernel
theorem dX8_shareOf_53 : decode cX8_shareOf 53 = .ok (.iload 4, 2) := by decide +kernel
theorem dX8_shareOf_55 : decode cX8_shareOf 55 = .ok (.ireturn, 1) := by decide +kernel
theorem dX8_mostOf_0 : decode cX8_mostOf 0 = .ok (.iload_n 0, 1) := by decide +kernel
theorem dX8_mostOf_1 : decode cX8_mostOf 1 = .ok (.ifCond .ne 8, 3) := by decide +kernel
theorem dX8_mostOf_4 : decode cX8_mostOf 4 = .ok (.bipush 99, 2) := by decide +kernel
theorem dX8_mostOf_6 : decode cX8_mostOf 6 = .ok (.goto 13, 3) := by decide +kernel
theorem dX8_mostOf_9 : decode cX8_mostOf 9 = .ok (.iload_n 0, 1) := by decide +kernel
theorem dX8_mostOf_10 : decode cX8_mostOf 10 = .ok (.iconst 1, 1) := by decide +kernel
theorem dX8_mostOf_11 : decode cX8_mostOf 11 = .ok (.if_icmp .ne 7, 3) := by decide +kernel
theorem dX8_mostOf_14 : decode cX8_mostOf 14 = .ok (.iconst 4, 1) := by decide +kernel
theorem dX8_mostOf_15 : decode cX8_mostOf 15 = .ok (.goto 4, 3) := by decide +kernel
theorem dX8_mostOf_18 : decode cX8_mostOf 18 = .ok (.iconst 3, 1) := by decide +kernel
theorem dX8_mostOf_19 : decode cX8_mostOf 19 = .ok (.ireturn, 1) := by decide +kernel
theorem dX8_share_0 : decode cX8_share 0 = .ok (.aload_n 0, 1) := by decide +kernel
theorem dX8_share_1 : decode cX8_share 1 = .ok (.iconst 0, 1) := by decide +kernel
theorem dX8_share_2 : decode cX8_share 2 = .ok (.putfield 42, 3) := by decide +kernel
theorem dX8_share_5 : decode cX8_share 5 = .ok (.aload_n 0, 1) := by decide +kernel
theorem dX8_share_6 : decode cX8_share 6 = .ok (.iload_n 1, 1) := by decide +kernel
theorem dX8_share_7 : decode cX8_share 7 = .ok (.invokevirtual 98, 3) := by decide +kernel
theorem dX8_share_10 : decode cX8_share 10 = .ok (.ifCond .ne 9, 3) := by decide +kernel
theorem dX8_share_13 : decode cX8_share 13 = .ok (.aload_n 0, 1) := by decide +kernel
theorem dX8_share_14 : decode cX8_share 14 = .ok (.iconst 1, 1) := by decide +kernel
theorem dX8_share_15 : decode cX8_share 15 = .ok (.invokevirtual 48, 3) := by decide +kernel
theorem dX8_share_18 : decode cX8_share 18 = .ok (.ireturn, 1) := by decide +kernel
theorem dX8_share_19 : decode cX8_share 19 = .ok (.iload_n 2, 1) := by decide +kernel
theorem dX8_share_20 : decode cX8_share 20 = .ok (.iconst 0, 1) := by decide +kernel
theorem dX8_share_21 : decode cX8_share 21 = .ok (.iconst 3, 1) := by decide +kernel
theorem dX8_share_22 : decode cX8_share 22 = .ok (.invokestatic 55, 3) := by decide +kernel
theorem dX8_share_25 : decode cX8_share 25 = .ok (.ifCond .eq 32, 3) := by decide +kernel
theorem dX8_share_28 : decode cX8_share 28 = .ok (.iload_n 3, 1) := by decide +kernel
theorem dX8_share_29 : decode cX8_share 29 = .ok (.iconst 0, 1) := by decide +kernel
theorem dX8_share_30 : decode cX8_share 30 = .ok (.iload_n 2, 1) := by decide +kernel
theorem dX8_share_31 : decode cX8_share 31 = .ok (.ifCond .ne 14, 3) := by decide +kernel
theorem dX8_share_34 : decode cX8_share 34 = .ok (.aload_n 0, 1) := by decide +kernel
theorem dX8_share_35 : decode cX8_share 35 = .ok (.getfield 9, 3) := by decide +kernel
theorem dX8_share_38 : decode cX8_share 38 = .ok (.iconst 1, 1) := by decide +kernel
theorem dX8_share_39 : decode cX8_share 39 = .ok (.iaload, 1) := by decide +kernel
theorem dX8_share_40 : decode cX8_share 40 = .ok (.iconst 1, 1) := by decide +kernel
theorem dX8_share_41 : decode cX8_share 41 = .ok (.isub, 1) := by decide +kernel
theorem dX8_share_42 : decode cX8_share 42 = .ok (.goto 9, 3) := by decide +kernel
theorem dX8_share_45 : decode cX8_share 45 = .ok (.iload_n 2, 1) := by decide +kernel
theorem dX8_share_46 : decode cX8_share 46 = .ok (.iconst 1, 1) := by decide +kernel
theorem dX8_share_47 : decode cX8_share 47 = .ok (.isub, 1) := by decide +kernel
theorem dX8_share_48 : decode cX8_share 48 = .ok (.invokestatic 147, 3) := by decide +kernel
theorem dX8_share_51 : decode cX8_share 51 = .ok (.invokestatic 55, 3) := by decide +kernel
theorem dX8_share_54 : decode cX8_share 54 = .ok (.ifCond .ne 9, 3) := by decide +kernel
theorem dX8_share_57 : decode cX8_share 57 = .ok (.aload_n 0, 1) := by decide +kernel
theorem dX8_share_58 : decode cX8_share 58 = .ok (.iconst 2, 1) := by decide +kernel
theorem dX8_share_59 : decode cX8_share 59 = .ok (.invokevirtual 48, 3) := by decide +kernel
theorem dX8_share_62 : decode cX8_share 62 = .ok (.ireturn, 1) := by decide +kernel
theorem dX8_share_63 : decode cX8_share 63 = .ok (.iload_n 2, 1) := by decide +kernel
theorem dX8_share_64 : decode cX8_share 64 = .ok (.ifCond .ne 15, 3) := by decide +kernel
theorem dX8_share_67 : decode cX8_share 67 = .ok (.aload_n 0, 1) := by decide +kernel
theorem dX8_share_68 : decode cX8_share 68 = .ok (.iload_n 1, 1) := by decide +kernel
theorem dX8_share_69 : decode cX8_share 69 = .ok (.bipush 13, 2) := by decide +kernel
theorem dX8_share_71 : decode cX8_share 71 = .ok (.iload_n 3, 1) := by decide +kernel
theorem dX8_share_72 : decode cX8_share 72 = .ok (.iadd, 1) := by decide +kernel
theorem dX8_share_73 : decode cX8_share 73 = .ok (.invokevirtual 102, 3) := by decide +kernel
theorem dX8_share_76 : decode cX8_share 76 = .ok (.goto 12, 3) := by decide +kernel
theorem dX8_share_79 : decode cX8_share 79 = .ok (.aload_n 0, 1) := by decide +kernel
theorem dX8_share_80 : decode cX8_share 80 = .ok (.iload_n 1, 1) := by decide +kernel
theorem dX8_share_81 : decode cX8_share 81 = .ok (.iload_n 2, 1) := by decide +kernel
theorem dX8_share_82 : decode cX8_share 82 = .ok (.iconst 1, 1) := by decide +kernel
theorem dX8_share_83 : decode cX8_share 83 = .ok (.isub, 1) := by decide +kernel
theorem dX8_share_84 : decode cX8_share 84 = .ok (.iload_n 3, 1) := by decide +kernel
theorem dX8_share_85 : decode cX8_share 85 = .ok (.invokevirtual 150, 3) := by decide +kernel
theorem dX8_share_88 : decode cX8_share 88 = .ok (.ireturn, 1) := by decide +kernel
theorem dX8_greatest_0 : decode cX8_greatest 0 = .ok (.aload_n 0, 1) := by decide +kernel
theorem dX8_greatest_1 : decode cX8_greatest 1 = .ok (.iconst 0, 1) := by decide +kernel
theorem dX8_greatest_2 : decode cX8_greatest 2 = .ok (.putfield 42, 3) := by decide +kernel
theorem dX8_greatest_5 : decode cX8_greatest 5 = .ok (.aload_n 0, 1) := by decide +kernel
theorem dX8_greatest_6 : decode cX8_greatest 6 = .ok (.iload_n 1, 1) := by decide +kernel
theorem dX8_greatest_7 : decode cX8_greatest 7 = .ok (.invokevirtual 98, 3) := by decide +kernel
theorem dX8_greatest_10 : decode cX8_greatest 10 = .ok (.ifCond .ne 9, 3) := by decide +kernel
theorem dX8_greatest_13 : decode cX8_greatest 13 = .ok (.aload_n 0, 1) := by decide +kernel
theorem dX8_greatest_14 : decode cX8_greatest 14 = .ok (.iconst 1, 1) := by decide +kernel
theorem dX8_greatest_15 : decode cX8_greatest 15 = .ok (.invokevirtual 48, 3) := by decide +kernel
theorem dX8_greatest_18 : decode cX8_greatest 18 = .ok (.ireturn, 1) := by decide +kernel
theorem dX8_greatest_19 : decode cX8_greatest 19 = .ok (.iconst 0, 1) := by decide +kernel
theorem dX8_greatest_20 : decode cX8_greatest 20 = .ok (.istore_n 3, 1) := by decide +kernel
theorem dX8_greatest_21 : decode cX8_greatest 21 = .ok (.iload_n 3, 1) := by decide +kernel
theorem dX8_greatest_22 : decode cX8_greatest 22 = .ok (.aload_n 0, 1) := by decide +kernel
theorem dX8_greatest_23 : decode cX8_greatest 23 = .ok (.getfield 9, 3) := by decide +kernel
theorem dX8_greatest_26 : decode cX8_greatest 26 = .ok (.iconst 1, 1) := by decide +kernel
theorem dX8_greatest_27 : decode cX8_greatest 27 = .ok (.iaload, 1) := by decide +kernel
theorem dX8_greatest_28 : decode cX8_greatest 28 = .ok (.if_icmp .ge 97, 3) := by decide +kernel
theorem dX8_greatest_31 : decode cX8_greatest 31 = .ok (.aload_n 0, 1) := by decide +kernel
theorem dX8_greatest_32 : decode cX8_greatest 32 = .ok (.iload_n 1, 1) := by decide +kernel
theorem dX8_greatest_33 : decode cX8_greatest 33 = .ok (.bipush 13, 2) := by decide +kernel
theorem dX8_greatest_35 : decode cX8_greatest 35 = .ok (.iload_n 3, 1) := by decide +kernel
theorem dX8_greatest_36 : decode cX8_greatest 36 = .ok (.iadd, 1) := by decide +kernel
theorem dX8_greatest_37 : decode cX8_greatest 37 = .ok (.invokevirtual 102, 3) := by decide +kernel
theorem dX8_greatest_40 : decode cX8_greatest 40 = .ok (.istore 4, 2) := by decide +kernel
theorem dX8_greatest_42 : decode cX8_greatest 42 = .ok (.iconst 0, 1) := by decide +kernel
theorem dX8_greatest_43 : decode cX8_greatest 43 = .ok (.istore 5, 2) := by decide +kernel
theorem dX8_greatest_45 : decode cX8_greatest 45 = .ok (.iconst 0, 1) := by decide +kernel
theorem dX8_greatest_46 : decode cX8_greatest 46 = .ok (.istore 6, 2) := by decide +kernel
theorem dX8_greatest_48 : decode cX8_greatest 48 = .ok (.iload 6, 2) := by decide +kernel
theorem dX8_greatest_50 : decode cX8_greatest 50 = .ok (.aload_n 0, 1) := by decide +kernel
theorem dX8_greatest_51 : decode cX8_greatest 51 = .ok (.getfield 9, 3) := by decide +kernel
theorem dX8_greatest_54 : decode cX8_greatest 54 = .ok (.iconst 1, 1) := by decide +kernel
theorem dX8_greatest_55 : decode cX8_greatest 55 = .ok (.iaload, 1) := by decide +kernel
theorem dX8_greatest_56 : decode cX8_greatest 56 = .ok (.if_icmp .ge 50, 3) := by decide +kernel
theorem dX8_greatest_59 : decode cX8_greatest 59 = .ok (.aload_n 0, 1) := by decide +kernel
theorem dX8_greatest_60 : decode cX8_greatest 60 = .ok (.iload_n 1, 1) := by decide +kernel
theorem dX8_greatest_61 : decode cX8_greatest 61 = .ok (.bipush 13, 2) := by decide +kernel
theorem dX8_greatest_63 : decode cX8_greatest 63 = .ok (.iload 6, 2) := by decide +kernel
theorem dX8_greatest_65 : decode cX8_greatest 65 = .ok (.iadd, 1) := by decide +kernel
theorem dX8_greatest_66 : decode cX8_greatest 66 = .ok (.invokevirtual 102, 3) := by decide +kernel
theorem dX8_greatest_69 : decode cX8_greatest 69 = .ok (.iload 4, 2) := by decide +kernel
theorem dX8_greatest_71 : decode cX8_greatest 71 = .ok (.isub, 1) := by decide +kernel
theorem dX8_greatest_72 : decode cX8_greatest 72 = .ok (.istore 7, 2) := by decide +kernel
theorem dX8_greatest_74 : decode cX8_greatest 74 = .ok (.iload 5, 2) := by decide +kernel
theorem dX8_greatest_76 : decode cX8_greatest 76 = .ok (.iload 7, 2) := by decide +kernel
theorem dX8_greatest_78 : decode cX8_greatest 78 = .ok (.ifCond .gt 14, 3) := by decide +kernel
theorem dX8_greatest_81 : decode cX8_greatest 81 = .ok (.iload 7, 2) := by decide +kernel
theorem dX8_greatest_83 : decode cX8_greatest 83 = .ok (.ifCond .ne 13, 3) := by decide +kernel
theorem dX8_greatest_86 : decode cX8_greatest 86 = .ok (.iload 6, 2) := by decide +kernel
theorem dX8_greatest_88 : decode cX8_greatest 88 = .ok (.iload_n 3, 1) := by decide +kernel
theorem dX8_greatest_89 : decode cX8_greatest 89 = .ok (.if_icmp .ge 7, 3) := by decide +kernel
theorem dX8_greatest_92 : decode cX8_greatest 92 = .ok (.iconst 1, 1) := by decide +kernel
theorem dX8_greatest_93 : decode cX8_greatest 93 = .ok (.goto 4, 3) := by decide +kernel
theorem dX8_greatest_96 : decode cX8_greatest 96 = .ok (.iconst 0, 1) := by decide +kernel
theorem dX8_greatest_97 : decode cX8_greatest 97 = .ok (.iadd, 1) := by decide +kernel
theorem dX8_greatest_98 : decode cX8_greatest 98 = .ok (.istore 5, 2) := by decide +kernel
theorem dX8_greatest_100 : decode cX8_greatest 100 = .ok (.iinc 6 1, 3) := by decide +kernel
theorem dX8_greatest_103 : decode cX8_greatest 103 = .ok (.goto (-55), 3) := by decide +kernel
theorem dX8_greatest_106 : decode cX8_greatest 106 = .ok (.iload 4, 2) := by decide +kernel
theorem dX8_greatest_108 : decode cX8_greatest 108 = .ok (.ifCond .le 11, 3) := by decide +kernel
theorem dX8_greatest_111 : decode cX8_greatest 111 = .ok (.iload 5, 2) := by decide +kernel
theorem dX8_greatest_113 : decode cX8_greatest 113 = .ok (.iload_n 2, 1) := by decide +kernel
theorem dX8_greatest_114 : decode cX8_greatest 114 = .ok (.if_icmp .ne 5, 3) := by decide +kernel
theorem dX8_greatest_117 : decode cX8_greatest 117 = .ok (.iload_n 3, 1) := by decide +kernel
theorem dX8_greatest_118 : decode cX8_greatest 118 = .ok (.ireturn, 1) := by decide +kernel
theorem dX8_greatest_119 : decode cX8_greatest 119 = .ok (.iinc 3 1, 3) := by decide +kernel
theorem dX8_greatest_122 : decode cX8_greatest 122 = .ok (.goto (-101), 3) := by decide +kernel
theorem dX8_greatest_125 : decode cX8_greatest 125 = .ok (.aload_n 0, 1) := by decide +kernel
theorem dX8_greatest_126 : decode cX8_greatest 126 = .ok (.iconst 2, 1) := by decide +kernel
theorem dX8_greatest_127 : decode cX8_greatest 127 = .ok (.invokevirtual 48, 3) := by decide +kernel
theorem dX8_greatest_130 : decode cX8_greatest 130 = .ok (.ireturn, 1) := by decide +kernel
theorem dX8_meanVintage_0 : decode cX8_meanVintage 0 = .ok (.aload_n 0, 1) := by decide +kernel
theorem dX8_meanVintage_1 : decode cX8_meanVintage 1 = .ok (.aload_n 0, 1) := by decide +kernel
theorem dX8_meanVintage_2 : decode cX8_meanVintage 2 = .ok (.iload_n 1, 1) := by decide +kernel
theorem dX8_meanVintage_3 : decode cX8_meanVintage 3 = .ok (.invokevirtual 98, 3) := by decide +kernel
theorem dX8_meanVintage_6 : decode cX8_meanVintage 6 = .ok (.ifCond .eq 7, 3) := by decide +kernel
theorem dX8_meanVintage_9 : decode cX8_meanVintage 9 = .ok (.iconst 0, 1) := by decide +kernel
theorem dX8_meanVintage_10 : decode cX8_meanVintage 10 = .ok (.goto 4, 3) := by decide +kernel
theorem dX8_meanVintage_13 : decode cX8_meanVintage 13 = .ok (.iconst 1, 1) := by decide +kernel
theorem dX8_meanVintage_14 : decode cX8_meanVintage 14 = .ok (.putfield 42, 3) := by decide +kernel
theorem dX8_meanVintage_17 : decode cX8_meanVintage 17 = .ok (.iconst 0, 1) := by decide +kernel
theorem dX8_meanVintage_18 : decode cX8_meanVintage 18 = .ok (.istore_n 2, 1) := by decide +kernel
theorem dX8_meanVintage_19 : decode cX8_meanVintage 19 = .ok (.iconst 0, 1) := by decide +kernel
theorem dX8_meanVintage_20 : decode cX8_meanVintage 20 = .ok (.istore_n 3, 1) := by decide +kernel
theorem dX8_meanVintage_21 : decode cX8_meanVintage 21 = .ok (.iload_n 3, 1) := by decide +kernel
theorem dX8_meanVintage_22 : decode cX8_meanVintage 22 = .ok (.aload_n 0, 1) := by decide +kernel
theorem dX8_meanVintage_23 : decode cX8_meanVintage 23 = .ok (.getfield 9, 3) := by decide +kernel
theorem dX8_meanVintage_26 : decode cX8_meanVintage 26 = .ok (.iconst 1, 1) := by decide +kernel
theorem dX8_meanVintage_27 : decode cX8_meanVintage 27 = .ok (.iaload, 1) := by decide +kernel
theorem dX8_meanVintage_28 : decode cX8_meanVintage 28 = .ok (.if_icmp .ge 35, 3) := by decide +kernel
theorem dX8_meanVintage_31 : decode cX8_meanVintage 31 = .ok (.aload_n 0, 1) := by decide +kernel
theorem dX8_meanVintage_32 : decode cX8_meanVintage 32 = .ok (.getfield 42, 3) := by decide +kernel
theorem dX8_meanVintage_35 : decode cX8_meanVintage 35 = .ok (.ifCond .ne 28, 3) := by decide +kernel
theorem dX8_meanVintage_38 : decode cX8_meanVintage 38 = .ok (.iload_n 2, 1) := by decide +kernel
theorem dX8_meanVintage_39 : decode cX8_meanVintage 39 = .ok (.aload_n 0, 1) := by decide +kernel
theorem dX8_meanVintage_40 : decode cX8_meanVintage 40 = .ok (.iload_n 1, 1) := by decide +kernel
theorem dX8_meanVintage_41 : decode cX8_meanVintage 41 = .ok (.bipush 13, 2) := by decide +kernel
theorem dX8_meanVintage_43 : decode cX8_meanVintage 43 = .ok (.iload_n 3, 1) := by decide +kernel
theorem dX8_meanVintage_44 : decode cX8_meanVintage 44 = .ok (.iadd, 1) := by decide +kernel
theorem dX8_meanVintage_45 : decode cX8_meanVintage 45 = .ok (.invokevirtual 102, 3) := by decide +kernel
theorem dX8_meanVintage_48 : decode cX8_meanVintage 48 = .ok (.aload_n 0, 1) := by decide +kernel
theorem dX8_meanVintage_49 : decode cX8_meanVintage 49 = .ok (.iload_n 3, 1) := by decide +kernel
theorem dX8_meanVintage_50 : decode cX8_meanVintage 50 = .ok (.iconst 0, 1) := by decide +kernel
theorem dX8_meanVintage_51 : decode cX8_meanVintage 51 = .ok (.invokevirtual 144, 3) := by decide +kernel
theorem dX8_meanVintage_54 : decode cX8_meanVintage 54 = .ok (.imul, 1) := by decide +kernel
theorem dX8_meanVintage_55 : decode cX8_meanVintage 55 = .ok (.iadd, 1) := by decide +kernel
theorem dX8_meanVintage_56 : decode cX8_meanVintage 56 = .ok (.istore_n 2, 1) := by decide +kernel
theorem dX8_meanVintage_57 : decode cX8_meanVintage 57 = .ok (.iinc 3 1, 3) := by decide +kernel
theorem dX8_meanVintage_60 : decode cX8_meanVintage 60 = .ok (.goto (-39), 3) := by decide +kernel
theorem dX8_meanVintage_63 : decode cX8_meanVintage 63 = .ok (.iload_n 2, 1) := by decide +kernel
theorem dX8_meanVintage_64 : decode cX8_meanVintage 64 = .ok (.i2d, 1) := by decide +kernel
theorem dX8_meanVintage_65 : decode cX8_meanVintage 65 = .ok (.ldc2_w 153, 3) := by decide +kernel
theorem dX8_meanVintage_68 : decode cX8_meanVintage 68 = .ok (.ddiv, 1) := by decide +kernel
theorem dX8_meanVintage_69 : decode cX8_meanVintage 69 = .ok (.dreturn, 1) := by decide +kernel
theorem dX8_setLaw_0 : decode cX8_setLaw 0 = .ok (.aload_n 0, 1) := by decide +kernel
theorem dX8_setLaw_1 : decode cX8_setLaw 1 = .ok (.iconst 0, 1) := by decide +kernel
theorem dX8_setLaw_2 : decode cX8_setLaw 2 = .ok (.putfield 42, 3) := by decide +kernel
theorem dX8_setLaw_5 : decode cX8_setLaw 5 = .ok (.iload_n 1, 1) := by decide +kernel
theorem dX8_setLaw_6 : decode cX8_setLaw 6 = .ok (.iconst 0, 1) := by decide +kernel
theorem dX8_setLaw_7 : decode cX8_setLaw 7 = .ok (.iconst 2, 1) := by decide +kernel
theorem dX8_setLaw_8 : decode cX8_setLaw 8 = .ok (.invokestatic 55, 3) := by decide +kernel
theorem dX8_setLaw_11 : decode cX8_setLaw 11 = .ok (.ifCond .ne 9, 3) := by decide +kernel
theorem dX8_setLaw_14 : decode cX8_setLaw 14 = .ok (.aload_n 0, 1) := by decide +kernel
theorem dX8_setLaw_15 : decode cX8_setLaw 15 = .ok (.iconst 1, 1) := by decide +kernel
theorem dX8_setLaw_16 : decode cX8_setLaw 16 = .ok (.invokevirtual 48, 3) := by decide +kernel
theorem dX8_setLaw_19 : decode cX8_setLaw 19 = .ok (.ireturn, 1) := by decide +kernel
theorem dX8_setLaw_20 : decode cX8_setLaw 20 = .ok (.iload_n 2, 1) := by decide +kernel
theorem dX8_setLaw_21 : decode cX8_setLaw 21 = .ok (.sipush 500, 3) := by decide +kernel
theorem dX8_setLaw_24 : decode cX8_setLaw 24 = .ok (.sipush 1000, 3) := by decide +kernel
theorem dX8_setLaw_27 : decode cX8_setLaw 27 = .ok (.invokestatic 55, 3) := by decide +kernel
theorem dX8_setLaw_30 : decode cX8_setLaw 30 = .ok (.ifCond .ne 9, 3) := by decide +kernel
theorem dX8_setLaw_33 : decode cX8_setLaw 33 = .ok (.aload_n 0, 1) := by decide +kernel
theorem dX8_setLaw_34 : decode cX8_setLaw 34 = .ok (.iconst 2, 1) := by decide +kernel
theorem dX8_setLaw_35 : decode cX8_setLaw 35 = .ok (.invokevirtual 48, 3) := by decide +kernel
theorem dX8_setLaw_38 : decode cX8_setLaw 38 = .ok (.ireturn, 1) := by decide +kernel
theorem dX8_setLaw_39 : decode cX8_setLaw 39 = .ok (.aload_n 0, 1) := by decide +kernel
theorem dX8_setLaw_40 : decode cX8_setLaw 40 = .ok (.getfield 9, 3) := by decide +kernel
theorem dX8_setLaw_43 : decode cX8_setLaw 43 = .ok (.iconst 5, 1) := by decide +kernel
theorem dX8_setLaw_44 : decode cX8_setLaw 44 = .ok (.iload_n 1, 1) := by decide +kernel
theorem dX8_setLaw_45 : decode cX8_setLaw 45 = .ok (.iadd, 1) := by decide +kernel
theorem dX8_setLaw_46 : decode cX8_setLaw 46 = .ok (.iaload, 1) := by decide +kernel
theorem dX8_setLaw_47 : decode cX8_setLaw 47 = .ok (.istore_n 3, 1) := by decide +kernel
theorem dX8_setLaw_48 : decode cX8_setLaw 48 = .ok (.aload_n 0, 1) := by decide +kernel
theorem dX8_setLaw_49 : decode cX8_setLaw 49 = .ok (.invokevirtual 63, 3) := by decide +kernel
theorem dX8_setLaw_52 : decode cX8_setLaw 52 = .ok (.aload_n 0, 1) := by decide +kernel
theorem dX8_setLaw_53 : decode cX8_setLaw 53 = .ok (.getfield 9, 3) := by decide +kernel
theorem dX8_setLaw_56 : decode cX8_setLaw 56 = .ok (.iconst 5, 1) := by decide +kernel
theorem dX8_setLaw_57 : decode cX8_setLaw 57 = .ok (.iload_n 1, 1) := by decide +kernel
theorem dX8_setLaw_58 : decode cX8_setLaw 58 = .ok (.iadd, 1) := by decide +kernel
theorem dX8_setLaw_59 : decode cX8_setLaw 59 = .ok (.iload_n 2, 1) := by decide +kernel
theorem dX8_setLaw_60 : decode cX8_setLaw 60 = .ok (.iastore, 1) := by decide +kernel
theorem dX8_setLaw_61 : decode cX8_setLaw 61 = .ok (.iload_n 3, 1) := by decide +kernel
theorem dX8_setLaw_62 : decode cX8_setLaw 62 = .ok (.ireturn, 1) := by decide +kernel
theorem dX8_isLabel_0 : decode cX8_isLabel 0 = .ok (.iload_n 0, 1) := by decide +kernel
theorem dX8_isLabel_1 : decode cX8_isLabel 1 = .ok (.iconst (-1), 1) := by decide +kernel
theorem dX8_isLabel_2 : decode cX8_isLabel 2 = .ok (.bipush 99, 2) := by decide +kernel
theorem dX8_isLabel_4 : decode cX8_isLabel 4 = .ok (.invokestatic 55, 3) := by decide +kernel
theorem dX8_isLabel_7 : decode cX8_isLabel 7 = .ok (.ifCond .eq 34, 3) := by decide +kernel
theorem dX8_isLabel_10 : decode cX8_isLabel 10 = .ok (.iload_n 1, 1) := by decide +kernel
theorem dX8_isLabel_11 : decode cX8_isLabel 11 = .ok (.iconst (-1), 1) := by decide +kernel
theorem dX8_isLabel_12 : decode cX8_isLabel 12 = .ok (.iconst 4, 1) := by decide +kernel
theorem dX8_isLabel_13 : decode cX8_isLabel 13 = .ok (.invokestatic 55, 3) := by decide +kernel
theorem dX8_isLabel_16 : decode cX8_isLabel 16 = .ok (.ifCond .eq 25, 3) := by decide +kernel
theorem dX8_isLabel_19 : decode cX8_isLabel 19 = .ok (.iload_n 2, 1) := by decide +kernel
theorem dX8_isLabel_20 : decode cX8_isLabel 20 = .ok (.iconst (-1), 1) := by decide +kernel
theorem dX8_isLabel_21 : decode cX8_isLabel 21 = .ok (.iconst 4, 1) := by decide +kernel
theorem dX8_isLabel_22 : decode cX8_isLabel 22 = .ok (.invokestatic 55, 3) := by decide +kernel
theorem dX8_isLabel_25 : decode cX8_isLabel 25 = .ok (.ifCond .eq 16, 3) := by decide +kernel
theorem dX8_isLabel_28 : decode cX8_isLabel 28 = .ok (.iload_n 3, 1) := by decide +kernel
theorem dX8_isLabel_29 : decode cX8_isLabel 29 = .ok (.iconst (-1), 1) := by decide +kernel
theorem dX8_isLabel_30 : decode cX8_isLabel 30 = .ok (.iconst 3, 1) := by decide +kernel
theorem dX8_isLabel_31 : decode cX8_isLabel 31 = .ok (.invokestatic 55, 3) := by decide +kernel
theorem dX8_isLabel_34 : decode cX8_isLabel 34 = .ok (.ifCond .eq 7, 3) := by decide +kernel
theorem dX8_isLabel_37 : decode cX8_isLabel 37 = .ok (.iconst 1, 1) := by decide +kernel
theorem dX8_isLabel_38 : decode cX8_isLabel 38 = .ok (.goto 4, 3) := by decide +kernel
theorem dX8_isLabel_41 : decode cX8_isLabel 41 = .ok (.iconst 0, 1) := by decide +kernel
theorem dX8_isLabel_42 : decode cX8_isLabel 42 = .ok (.istore 4, 2) := by decide +kernel
theorem dX8_isLabel_44 : decode cX8_isLabel 44 = .ok (.iload 4, 2) := by decide +kernel
theorem dX8_isLabel_46 : decode cX8_isLabel 46 = .ok (.ifCond .eq 22, 3) := by decide +kernel
theorem dX8_isLabel_49 : decode cX8_isLabel 49 = .ok (.iload_n 2, 1) := by decide +kernel
theorem dX8_isLabel_50 : decode cX8_isLabel 50 = .ok (.iconst (-1), 1) := by decide +kernel
theorem dX8_isLabel_51 : decode cX8_isLabel 51 = .ok (.if_icmp .eq 13, 3) := by decide +kernel
theorem dX8_isLabel_54 : decode cX8_isLabel 54 = .ok (.iload_n 1, 1) := by decide +kernel
theorem dX8_isLabel_55 : decode cX8_isLabel 55 = .ok (.iconst (-1), 1) := by decide +kernel
theorem dX8_isLabel_56 : decode cX8_isLabel 56 = .ok (.if_icmp .eq 12, 3) := by decide +kernel
theorem dX8_isLabel_59 : decode cX8_isLabel 59 = .ok (.iload_n 1, 1) := by decide +kernel
theorem dX8_isLabel_60 : decode cX8_isLabel 60 = .ok (.iload_n 2, 1) := by decide +kernel
theorem dX8_isLabel_61 : decode cX8_isLabel 61 = .ok (.if_icmp .eq 7, 3) := by decide +kernel
theorem dX8_isLabel_64 : decode cX8_isLabel 64 = .ok (.iconst 1, 1) := by decide +kernel
theorem dX8_isLabel_65 : decode cX8_isLabel 65 = .ok (.goto 4, 3) := by decide +kernel
theorem dX8_isLabel_68 : decode cX8_isLabel 68 = .ok (.iconst 0, 1) := by decide +kernel
theorem dX8_isLabel_69 : decode cX8_isLabel 69 = .ok (.ireturn, 1) := by decide +kernel
theorem dX8_areGrapesAllowed_0 : decode cX8_areGrapesAllowed 0 = .ok (.iload_n 2, 1) := by decide +kernel
theorem dX8_areGrapesAllowed_1 : decode cX8_areGrapesAllowed 1 = .ok (.iconst (-1), 1) := by decide +kernel
theorem dX8_areGrapesAllowed_2 : decode cX8_areGrapesAllowed 2 = .ok (.if_icmp .ne 9, 3) := by decide +kernel
theorem dX8_areGrapesAllowed_5 : decode cX8_areGrapesAllowed 5 = .ok (.sipush 1000, 3) := by decide +kernel
theorem dX8_areGrapesAllowed_8 : decode cX8_areGrapesAllowed 8 = .ok (.goto 10, 3) := by decide +kernel
theorem dX8_areGrapesAllowed_11 : decode cX8_areGrapesAllowed 11 = .ok (.aload_n 0, 1) := by decide +kernel
theorem dX8_areGrapesAllowed_12 : decode cX8_areGrapesAllowed 12 = .ok (.iload_n 1, 1) := by decide +kernel
theorem dX8_areGrapesAllowed_13 : decode cX8_areGrapesAllowed 13 = .ok (.iconst 1, 1) := by decide +kernel
theorem dX8_areGrapesAllowed_14 : decode cX8_areGrapesAllowed 14 = .ok (.iload_n 2, 1) := by decide +kernel
theorem dX8_areGrapesAllowed_15 : decode cX8_areGrapesAllowed 15 = .ok (.invokevirtual 150, 3) := by decide +kernel
theorem dX8_areGrapesAllowed_18 : decode cX8_areGrapesAllowed 18 = .ok (.istore 4, 2) := by decide +kernel
theorem dX8_areGrapesAllowed_20 : decode cX8_areGrapesAllowed 20 = .ok (.iload_n 3, 1) := by decide +kernel
theorem dX8_areGrapesAllowed_21 : decode cX8_areGrapesAllowed 21 = .ok (.iconst (-1), 1) := by decide +kernel
theorem dX8_areGrapesAllowed_22 : decode cX8_areGrapesAllowed 22 = .ok (.if_icmp .ne 7, 3) := by decide +kernel
theorem dX8_areGrapesAllowed_25 : decode cX8_areGrapesAllowed 25 = .ok (.iconst 0, 1) := by decide +kernel
theorem dX8_areGrapesAllowed_26 : decode cX8_areGrapesAllowed 26 = .ok (.goto 10, 3) := by decide +kernel
theorem dX8_areGrapesAllowed_29 : decode cX8_areGrapesAllowed 29 = .ok (.aload_n 0, 1) := by decide +kernel
theorem dX8_areGrapesAllowed_30 : decode cX8_areGrapesAllowed 30 = .ok (.iload_n 1, 1) := by decide +kernel
theorem dX8_areGrapesAllowed_31 : decode cX8_areGrapesAllowed 31 = .ok (.iconst 1, 1) := by decide +kernel
theorem dX8_areGrapesAllowed_32 : decode cX8_areGrapesAllowed 32 = .ok (.iload_n 3, 1) := by decide +kernel
theorem dX8_areGrapesAllowed_33 : decode cX8_areGrapesAllowed 33 = .ok (.invokevirtual 150, 3) := by decide +kernel
theorem dX8_areGrapesAllowed_36 : decode cX8_areGrapesAllowed 36 = .ok (.istore 5, 2) := by decide +kernel
theorem dX8_areGrapesAllowed_38 : decode cX8_areGrapesAllowed 38 = .ok (.iload 4, 2) := by decide +kernel
theorem dX8_areGrapesAllowed_40 : decode cX8_areGrapesAllowed 40 = .ok (.iload 5, 2) := by decide +kernel
theorem dX8_areGrapesAllowed_42 : decode cX8_areGrapesAllowed 42 = .ok (.iadd, 1) := by decide +kernel
theorem dX8_areGrapesAllowed_43 : decode cX8_areGrapesAllowed 43 = .ok (.aload_n 0, 1) := by decide +kernel
theorem dX8_areGrapesAllowed_44 : decode cX8_areGrapesAllowed 44 = .ok (.getfield 9, 3) := by decide +kernel
theorem dX8_areGrapesAllowed_47 : decode cX8_areGrapesAllowed 47 = .ok (.bipush 6, 2) := by decide +kernel
theorem dX8_areGrapesAllowed_49 : decode cX8_areGrapesAllowed 49 = .ok (.iaload, 1) := by decide +kernel
theorem dX8_areGrapesAllowed_50 : decode cX8_areGrapesAllowed 50 = .ok (.if_icmp .lt 24, 3) := by decide +kernel
theorem dX8_areGrapesAllowed_53 : decode cX8_areGrapesAllowed 53 = .ok (.iload_n 3, 1) := by decide +kernel
theorem dX8_areGrapesAllowed_54 : decode cX8_areGrapesAllowed 54 = .ok (.iconst (-1), 1) := by decide +kernel
theorem dX8_areGrapesAllowed_55 : decode cX8_areGrapesAllowed 55 = .ok (.if_icmp .eq 15, 3) := by decide +kernel
theorem dX8_areGrapesAllowed_58 : decode cX8_areGrapesAllowed 58 = .ok (.iload 4, 2) := by decide +kernel
theorem dX8_areGrapesAllowed_60 : decode cX8_areGrapesAllowed 60 = .ok (.iload 5, 2) := by decide +kernel
theorem dX8_areGrapesAllowed_62 : decode cX8_areGrapesAllowed 62 = .ok (.if_icmp .lt 12, 3) := by decide +kernel
theorem dX8_areGrapesAllowed_65 : decode cX8_areGrapesAllowed 65 = .ok (.iload 5, 2) := by decide +kernel
theorem dX8_areGrapesAllowed_67 : decode cX8_areGrapesAllowed 67 = .ok (.ifCond .eq 7, 3) := by decide +kernel
theorem dX8_areGrapesAllowed_70 : decode cX8_areGrapesAllowed 70 = .ok (.iconst 1, 1) := by decide +kernel
theorem dX8_areGrapesAllowed_71 : decode cX8_areGrapesAllowed 71 = .ok (.goto 4, 3) := by decide +kernel
theorem dX8_areGrapesAllowed_74 : decode cX8_areGrapesAllowed 74 = .ok (.iconst 0, 1) := by decide +kernel
theorem dX8_areGrapesAllowed_75 : decode cX8_areGrapesAllowed 75 = .ok (.ireturn, 1) := by decide +kernel
theorem dX8_forbidding_0 : decode cX8_forbidding 0 = .ok (.iload_n 2, 1) := by decide +kernel
theorem dX8_forbidding_1 : decode cX8_forbidding 1 = .ok (.iconst (-1), 1) := by decide +kernel
theorem dX8_forbidding_2 : decode cX8_forbidding 2 = .ok (.if_icmp .eq 22, 3) := by decide +kernel
theorem dX8_forbidding_5 : decode cX8_forbidding 5 = .ok (.aload_n 0, 1) := by decide +kernel
theorem dX8_forbidding_6 : decode cX8_forbidding 6 = .ok (.iload_n 1, 1) := by decide +kernel
theorem dX8_forbidding_7 : decode cX8_forbidding 7 = .ok (.iconst 0, 1) := by decide +kernel
theorem dX8_forbidding_8 : decode cX8_forbidding 8 = .ok (.iload_n 2, 1) := by decide +kernel
theorem dX8_forbidding_9 : decode cX8_forbidding 9 = .ok (.invokevirtual 150, 3) := by decide +kernel
theorem dX8_forbidding_12 : decode cX8_forbidding 12 = .ok (.aload_n 0, 1) := by decide +kernel
theorem dX8_forbidding_13 : decode cX8_forbidding 13 = .ok (.getfield 9, 3) := by decide +kernel
theorem dX8_forbidding_16 : decode cX8_forbidding 16 = .ok (.iconst 5, 1) := by decide +kernel
theorem dX8_forbidding_17 : decode cX8_forbidding 17 = .ok (.iaload, 1) := by decide +kernel
theorem dX8_forbidding_18 : decode cX8_forbidding 18 = .ok (.if_icmp .ge 6, 3) := by decide +kernel
theorem dX8_forbidding_21 : decode cX8_forbidding 21 = .ok (.bipush 6, 2) := by decide +kernel
theorem dX8_forbidding_23 : decode cX8_forbidding 23 = .ok (.ireturn, 1) := by decide +kernel
theorem dX8_forbidding_24 : decode cX8_forbidding 24 = .ok (.aload_n 0, 1) := by decide +kernel
theorem dX8_forbidding_25 : decode cX8_forbidding 25 = .ok (.iload_n 1, 1) := by decide +kernel
theorem dX8_forbidding_26 : decode cX8_forbidding 26 = .ok (.iload_n 3, 1) := by decide +kernel
theorem dX8_forbidding_27 : decode cX8_forbidding 27 = .ok (.iload 4, 2) := by decide +kernel
theorem dX8_forbidding_29 : decode cX8_forbidding 29 = .ok (.invokevirtual 155, 3) := by decide +kernel
theorem dX8_forbidding_32 : decode cX8_forbidding 32 = .ok (.ifCond .ne 6, 3) := by decide +kernel
theorem dX8_forbidding_35 : decode cX8_forbidding 35 = .ok (.bipush 7, 2) := by decide +kernel
theorem dX8_forbidding_37 : decode cX8_forbidding 37 = .ok (.ireturn, 1) := by decide +kernel
theorem dX8_forbidding_38 : decode cX8_forbidding 38 = .ok (.iload 5, 2) := by decide +kernel
theorem dX8_forbidding_40 : decode cX8_forbidding 40 = .ok (.iconst (-1), 1) := by decide +kernel
theorem dX8_forbidding_41 : decode cX8_forbidding 41 = .ok (.if_icmp .eq 26, 3) := by decide +kernel
theorem dX8_forbidding_44 : decode cX8_forbidding 44 = .ok (.aload_n 0, 1) := by decide +kernel
theorem dX8_forbidding_45 : decode cX8_forbidding 45 = .ok (.iload_n 1, 1) := by decide +kernel
theorem dX8_forbidding_46 : decode cX8_forbidding 46 = .ok (.iconst 2, 1) := by decide +kernel
theorem dX8_forbidding_47 : decode cX8_forbidding 47 = .ok (.iload 5, 2) := by decide +kernel
theorem dX8_forbidding_49 : decode cX8_forbidding 49 = .ok (.invokevirtual 150, 3) := by decide +kernel
theorem dX8_forbidding_52 : decode cX8_forbidding 52 = .ok (.aload_n 0, 1) := by decide +kernel
theorem dX8_forbidding_53 : decode cX8_forbidding 53 = .ok (.getfield 9, 3) := by decide +kernel
theorem dX8_forbidding_56 : decode cX8_forbidding 56 = .ok (.bipush 7, 2) := by decide +kernel
theorem dX8_forbidding_58 : decode cX8_forbidding 58 = .ok (.iaload, 1) := by decide +kernel
theorem dX8_forbidding_59 : decode cX8_forbidding 59 = .ok (.if_icmp .ge 8, 3) := by decide +kernel
theorem dX8_forbidding_62 : decode cX8_forbidding 62 = .ok (.bipush 8, 2) := by decide +kernel
theorem dX8_forbidding_64 : decode cX8_forbidding 64 = .ok (.goto 4, 3) := by decide +kernel
theorem dX8_forbidding_67 : decode cX8_forbidding 67 = .ok (.iconst 0, 1) := by decide +kernel
theorem dX8_forbidding_68 : decode cX8_forbidding 68 = .ok (.ireturn, 1) := by decide +kernel
theorem dX8_bottle_0 : decode cX8_bottle 0 = .ok (.aload_n 0, 1) := by decide +kernel
theorem dX8_bottle_1 : decode cX8_bottle 1 = .ok (.iconst 0, 1) := by decide +kernel
theorem dX8_bottle_2 : decode cX8_bottle 2 = .ok (.putfield 42, 3) := by decide +kernel
theorem dX8_bottle_5 : decode cX8_bottle 5 = .ok (.aload_n 0, 1) := by decide +kernel
theorem dX8_bottle_6 : decode cX8_bottle 6 = .ok (.iload_n 1, 1) := by decide +kernel
theorem dX8_bottle_7 : decode cX8_bottle 7 = .ok (.invokevirtual 98, 3) := by decide +kernel
theorem dX8_bottle_10 : decode cX8_bottle 10 = .ok (.ifCond .ne 9, 3) := by decide +kernel
theorem dX8_bottle_13 : decode cX8_bottle 13 = .ok (.aload_n 0, 1) := by decide +kernel
theorem dX8_bottle_14 : decode cX8_bottle 14 = .ok (.iconst 1, 1) := by decide +kernel
theorem dX8_bottle_15 : decode cX8_bottle 15 = .ok (.invokevirtual 48, 3) := by decide +kernel
theorem dX8_bottle_18 : decode cX8_bottle 18 = .ok (.ireturn, 1) := by decide +kernel
theorem dX8_bottle_19 : decode cX8_bottle 19 = .ok (.iload_n 2, 1) := by decide +kernel
theorem dX8_bottle_20 : decode cX8_bottle 20 = .ok (.iconst 1, 1) := by decide +kernel
theorem dX8_bottle_21 : decode cX8_bottle 21 = .ok (.sipush 3333, 3) := by decide +kernel
theorem dX8_bottle_24 : decode cX8_bottle 24 = .ok (.invokestatic 55, 3) := by decide +kernel
theorem dX8_bottle_27 : decode cX8_bottle 27 = .ok (.ifCond .eq 16, 3) := by decide +kernel
theorem dX8_bottle_30 : decode cX8_bottle 30 = .ok (.iload_n 3, 1) := by decide +kernel
theorem dX8_bottle_31 : decode cX8_bottle 31 = .ok (.iload 4, 2) := by decide +kernel
theorem dX8_bottle_33 : decode cX8_bottle 33 = .ok (.iload 5, 2) := by decide +kernel
theorem dX8_bottle_35 : decode cX8_bottle 35 = .ok (.iload 6, 2) := by decide +kernel
theorem dX8_bottle_37 : decode cX8_bottle 37 = .ok (.invokestatic 158, 3) := by decide +kernel
theorem dX8_bottle_40 : decode cX8_bottle 40 = .ok (.ifCond .ne 9, 3) := by decide +kernel
theorem dX8_bottle_43 : decode cX8_bottle 43 = .ok (.aload_n 0, 1) := by decide +kernel
theorem dX8_bottle_44 : decode cX8_bottle 44 = .ok (.iconst 2, 1) := by decide +kernel
theorem dX8_bottle_45 : decode cX8_bottle 45 = .ok (.invokevirtual 48, 3) := by decide +kernel
theorem dX8_bottle_48 : decode cX8_bottle 48 = .ok (.ireturn, 1) := by decide +kernel
theorem dX8_bottle_49 : decode cX8_bottle 49 = .ok (.aload_n 0, 1) := by decide +kernel
theorem dX8_bottle_50 : decode cX8_bottle 50 = .ok (.iload_n 1, 1) := by decide +kernel
theorem dX8_bottle_51 : decode cX8_bottle 51 = .ok (.iconst 1, 1) := by decide +kernel
theorem dX8_bottle_52 : decode cX8_bottle 52 = .ok (.invokevirtual 102, 3) := by decide +kernel
theorem dX8_bottle_55 : decode cX8_bottle 55 = .ok (.iconst 3, 1) := by decide +kernel
theorem dX8_bottle_56 : decode cX8_bottle 56 = .ok (.iload_n 2, 1) := by decide +kernel
theorem dX8_bottle_57 : decode cX8_bottle 57 = .ok (.imul, 1) := by decide +kernel
theorem dX8_bottle_58 : decode cX8_bottle 58 = .ok (.if_icmp .ge 7, 3) := by decide +kernel
theorem dX8_bottle_61 : decode cX8_bottle 61 = .ok (.iconst 5, 1) := by decide +kernel
theorem dX8_bottle_62 : decode cX8_bottle 62 = .ok (.goto 15, 3) := by decide +kernel
theorem dX8_bottle_65 : decode cX8_bottle 65 = .ok (.aload_n 0, 1) := by decide +kernel
theorem dX8_bottle_66 : decode cX8_bottle 66 = .ok (.iload_n 1, 1) := by decide +kernel
theorem dX8_bottle_67 : decode cX8_bottle 67 = .ok (.iload_n 3, 1) := by decide +kernel
theorem dX8_bottle_68 : decode cX8_bottle 68 = .ok (.iload 4, 2) := by decide +kernel
theorem dX8_bottle_70 : decode cX8_bottle 70 = .ok (.iload 5, 2) := by decide +kernel
theorem dX8_bottle_72 : decode cX8_bottle 72 = .ok (.iload 6, 2) := by decide +kernel
theorem dX8_bottle_74 : decode cX8_bottle 74 = .ok (.invokevirtual 162, 3) := by decide +kernel
theorem dX8_bottle_77 : decode cX8_bottle 77 = .ok (.istore 7, 2) := by decide +kernel
theorem dX8_bottle_79 : decode cX8_bottle 79 = .ok (.iload 7, 2) := by decide +kernel
theorem dX8_bottle_81 : decode cX8_bottle 81 = .ok (.ifCond .ne 18, 3) := by decide +kernel
theorem dX8_bottle_84 : decode cX8_bottle 84 = .ok (.aload_n 0, 1) := by decide +kernel
theorem dX8_bottle_85 : decode cX8_bottle 85 = .ok (.getfield 9, 3) := by decide +kernel
theorem dX8_bottle_88 : decode cX8_bottle 88 = .ok (.iconst 2, 1) := by decide +kernel
theorem dX8_bottle_89 : decode cX8_bottle 89 = .ok (.iaload, 1) := by decide +kernel
theorem dX8_bottle_90 : decode cX8_bottle 90 = .ok (.bipush 16, 2) := by decide +kernel
theorem dX8_bottle_92 : decode cX8_bottle 92 = .ok (.if_icmp .ne 7, 3) := by decide +kernel
theorem dX8_bottle_95 : decode cX8_bottle 95 = .ok (.bipush 9, 2) := by decide +kernel
theorem dX8_bottle_97 : decode cX8_bottle 97 = .ok (.istore 7, 2) := by decide +kernel
theorem dX8_bottle_99 : decode cX8_bottle 99 = .ok (.iload 7, 2) := by decide +kernel
theorem dX8_bottle_101 : decode cX8_bottle 101 = .ok (.ifCond .eq 11, 3) := by decide +kernel
theorem dX8_bottle_104 : decode cX8_bottle 104 = .ok (.aload_n 0, 1) := by decide +kernel
theorem dX8_bottle_105 : decode cX8_bottle 105 = .ok (.iconst 3, 1) := by decide +kernel
theorem dX8_bottle_106 : decode cX8_bottle 106 = .ok (.iload 7, 2) := by decide +kernel
theorem dX8_bottle_108 : decode cX8_bottle 108 = .ok (.invokevirtual 127, 3) := by decide +kernel
theorem dX8_bottle_111 : decode cX8_bottle 111 = .ok (.ireturn, 1) := by decide +kernel
theorem dX8_bottle_112 : decode cX8_bottle 112 = .ok (.aload_n 0, 1) := by decide +kernel
theorem dX8_bottle_113 : decode cX8_bottle 113 = .ok (.invokevirtual 63, 3) := by decide +kernel
theorem dX8_bottle_116 : decode cX8_bottle 116 = .ok (.aload_n 0, 1) := by decide +kernel
theorem dX8_bottle_117 : decode cX8_bottle 117 = .ok (.getfield 9, 3) := by decide +kernel
theorem dX8_bottle_120 : decode cX8_bottle 120 = .ok (.iconst 2, 1) := by decide +kernel
theorem dX8_bottle_121 : decode cX8_bottle 121 = .ok (.iaload, 1) := by decide +kernel
theorem dX8_bottle_122 : decode cX8_bottle 122 = .ok (.istore 8, 2) := by decide +kernel
theorem dX8_bottle_124 : decode cX8_bottle 124 = .ok (.aload_n 0, 1) := by decide +kernel
theorem dX8_bottle_125 : decode cX8_bottle 125 = .ok (.getfield 9, 3) := by decide +kernel
theorem dX8_bottle_128 : decode cX8_bottle 128 = .ok (.iconst 2, 1) := by decide +kernel
theorem dX8_bottle_129 : decode cX8_bottle 129 = .ok (.dup2, 1) := by decide +kernel
theorem dX8_bottle_130 : decode cX8_bottle 130 = .ok (.iaload, 1) := by decide +kernel
theorem dX8_bottle_131 : decode cX8_bottle 131 = .ok (.iconst 1, 1) := by decide +kernel
theorem dX8_bottle_132 : decode cX8_bottle 132 = .ok (.iadd, 1) := by decide +kernel
theorem dX8_bottle_133 : decode cX8_bottle 133 = .ok (.iastore, 1) := by decide +kernel
theorem dX8_bottle_134 : decode cX8_bottle 134 = .ok (.aload_n 0, 1) := by decide +kernel
theorem dX8_bottle_135 : decode cX8_bottle 135 = .ok (.iload 8, 2) := by decide +kernel
theorem dX8_bottle_137 : decode cX8_bottle 137 = .ok (.iconst 0, 1) := by decide +kernel
theorem dX8_bottle_138 : decode cX8_bottle 138 = .ok (.iload_n 1, 1) := by decide +kernel
theorem dX8_bottle_139 : decode cX8_bottle 139 = .ok (.invokevirtual 166, 3) := by decide +kernel
theorem dX8_bottle_142 : decode cX8_bottle 142 = .ok (.aload_n 0, 1) := by decide +kernel
theorem dX8_bottle_143 : decode cX8_bottle 143 = .ok (.iload 8, 2) := by decide +kernel
theorem dX8_bottle_145 : decode cX8_bottle 145 = .ok (.iconst 1, 1) := by decide +kernel
theorem dX8_bottle_146 : decode cX8_bottle 146 = .ok (.iload_n 2, 1) := by decide +kernel
theorem dX8_bottle_147 : decode cX8_bottle 147 = .ok (.invokevirtual 166, 3) := by decide +kernel
theorem dX8_bottle_150 : decode cX8_bottle 150 = .ok (.aload_n 0, 1) := by decide +kernel
theorem dX8_bottle_151 : decode cX8_bottle 151 = .ok (.iload 8, 2) := by decide +kernel
theorem dX8_bottle_153 : decode cX8_bottle 153 = .ok (.iconst 2, 1) := by decide +kernel
theorem dX8_bottle_154 : decode cX8_bottle 154 = .ok (.iload_n 2, 1) := by decide +kernel
theorem dX8_bottle_155 : decode cX8_bottle 155 = .ok (.invokevirtual 166, 3) := by decide +kernel
theorem dX8_bottle_158 : decode cX8_bottle 158 = .ok (.aload_n 0, 1) := by decide +kernel
theorem dX8_bottle_159 : decode cX8_bottle 159 = .ok (.iload 8, 2) := by decide +kernel
theorem dX8_bottle_161 : decode cX8_bottle 161 = .ok (.iconst 3, 1) := by decide +kernel
theorem dX8_bottle_162 : decode cX8_bottle 162 = .ok (.iload_n 3, 1) := by decide +kernel
theorem dX8_bottle_163 : decode cX8_bottle 163 = .ok (.invokevirtual 166, 3) := by decide +kernel
theorem dX8_bottle_166 : decode cX8_bottle 166 = .ok (.aload_n 0, 1) := by decide +kernel
theorem dX8_bottle_167 : decode cX8_bottle 167 = .ok (.iload 8, 2) := by decide +kernel
theorem dX8_bottle_169 : decode cX8_bottle 169 = .ok (.iconst 4, 1) := by decide +kernel
theorem dX8_bottle_170 : decode cX8_bottle 170 = .ok (.iload 4, 2) := by decide +kernel
theorem dX8_bottle_172 : decode cX8_bottle 172 = .ok (.invokevirtual 166, 3) := by decide +kernel
theorem dX8_bottle_175 : decode cX8_bottle 175 = .ok (.aload_n 0, 1) := by decide +kernel
theorem dX8_bottle_176 : decode cX8_bottle 176 = .ok (.iload 8, 2) := by decide +kernel
theorem dX8_bottle_178 : decode cX8_bottle 178 = .ok (.iconst 5, 1) := by decide +kernel
theorem dX8_bottle_179 : decode cX8_bottle 179 = .ok (.iload 5, 2) := by decide +kernel
theorem dX8_bottle_181 : decode cX8_bottle 181 = .ok (.invokevirtual 166, 3) := by decide +kernel
theorem dX8_bottle_184 : decode cX8_bottle 184 = .ok (.aload_n 0, 1) := by decide +kernel
theorem dX8_bottle_185 : decode cX8_bottle 185 = .ok (.iload 8, 2) := by decide +kernel
theorem dX8_bottle_187 : decode cX8_bottle 187 = .ok (.bipush 6, 2) := by decide +kernel
theorem dX8_bottle_189 : decode cX8_bottle 189 = .ok (.iload 6, 2) := by decide +kernel
theorem dX8_bottle_191 : decode cX8_bottle 191 = .ok (.invokevirtual 166, 3) := by decide +kernel
theorem dX8_bottle_194 : decode cX8_bottle 194 = .ok (.aload_n 0, 1) := by decide +kernel
theorem dX8_bottle_195 : decode cX8_bottle 195 = .ok (.iload_n 1, 1) := by decide +kernel
theorem dX8_bottle_196 : decode cX8_bottle 196 = .ok (.iconst 1, 1) := by decide +kernel
theorem dX8_bottle_197 : decode cX8_bottle 197 = .ok (.aload_n 0, 1) := by decide +kernel
theorem dX8_bottle_198 : decode cX8_bottle 198 = .ok (.iload_n 1, 1) := by decide +kernel
theorem dX8_bottle_199 : decode cX8_bottle 199 = .ok (.iconst 1, 1) := by decide +kernel
theorem dX8_bottle_200 : decode cX8_bottle 200 = .ok (.invokevirtual 102, 3) := by decide +kernel
theorem dX8_bottle_203 : decode cX8_bottle 203 = .ok (.iconst 3, 1) := by decide +kernel
theorem dX8_bottle_204 : decode cX8_bottle 204 = .ok (.iload_n 2, 1) := by decide +kernel
theorem dX8_bottle_205 : decode cX8_bottle 205 = .ok (.imul, 1) := by decide +kernel
theorem dX8_bottle_206 : decode cX8_bottle 206 = .ok (.isub, 1) := by decide +kernel
theorem dX8_bottle_207 : decode cX8_bottle 207 = .ok (.invokevirtual 59, 3) := by decide +kernel
theorem dX8_bottle_210 : decode cX8_bottle 210 = .ok (.iload 8, 2) := by decide +kernel
theorem dX8_bottle_212 : decode cX8_bottle 212 = .ok (.ireturn, 1) := by decide +kernel
theorem dX8_forbids_0 : decode cX8_forbids 0 = .ok (.aload_n 0, 1) := by decide +kernel
theorem dX8_forbids_1 : decode cX8_forbids 1 = .ok (.iconst 0, 1) := by decide +kernel
theorem dX8_forbids_2 : decode cX8_forbids 2 = .ok (.putfield 42, 3) := by decide +kernel
theorem dX8_forbids_5 : decode cX8_forbids 5 = .ok (.aload_n 0, 1) := by decide +kernel
theorem dX8_forbids_6 : decode cX8_forbids 6 = .ok (.iload_n 1, 1) := by decide +kernel
theorem dX8_forbids_7 : decode cX8_forbids 7 = .ok (.invokevirtual 98, 3) := by decide +kernel
theorem dX8_forbids_10 : decode cX8_forbids 10 = .ok (.ifCond .ne 9, 3) := by decide +kernel
theorem dX8_forbids_13 : decode cX8_forbids 13 = .ok (.aload_n 0, 1) := by decide +kernel
theorem dX8_forbids_14 : decode cX8_forbids 14 = .ok (.iconst 1, 1) := by decide +kernel
theorem dX8_forbids_15 : decode cX8_forbids 15 = .ok (.invokevirtual 48, 3) := by decide +kernel
theorem dX8_forbids_18 : decode cX8_forbids 18 = .ok (.ireturn, 1) := by decide +kernel
theorem dX8_forbids_19 : decode cX8_forbids 19 = .ok (.iload_n 2, 1) := by decide +kernel
theorem dX8_forbids_20 : decode cX8_forbids 20 = .ok (.iload_n 3, 1) := by decide +kernel
theorem dX8_forbids_21 : decode cX8_forbids 21 = .ok (.iload 4, 2) := by decide +kernel
theorem dX8_forbids_23 : decode cX8_forbids 23 = .ok (.iload 5, 2) := by decide +kernel
theorem dX8_forbids_25 : decode cX8_forbids 25 = .ok (.invokestatic 158, 3) := by decide +kernel
theorem dX8_forbids_28 : decode cX8_forbids 28 = .ok (.ifCond .eq 17, 3) := by decide +kernel
theorem dX8_forbids_31 : decode cX8_forbids 31 = .ok (.aload_n 0, 1) := by decide +kernel
theorem dX8_forbids_32 : decode cX8_forbids 32 = .ok (.iload_n 1, 1) := by decide +kernel
theorem dX8_forbids_33 : decode cX8_forbids 33 = .ok (.iload_n 2, 1) := by decide +kernel
theorem dX8_forbids_34 : decode cX8_forbids 34 = .ok (.iload_n 3, 1) := by decide +kernel
theorem dX8_forbids_35 : decode cX8_forbids 35 = .ok (.iload 4, 2) := by decide +kernel
theorem dX8_forbids_37 : decode cX8_forbids 37 = .ok (.iload 5, 2) := by decide +kernel
theorem dX8_forbids_39 : decode cX8_forbids 39 = .ok (.invokevirtual 162, 3) := by decide +kernel
theorem dX8_forbids_42 : decode cX8_forbids 42 = .ok (.goto 8, 3) := by decide +kernel
theorem dX8_forbids_45 : decode cX8_forbids 45 = .ok (.aload_n 0, 1) := by decide +kernel
theorem dX8_forbids_46 : decode cX8_forbids 46 = .ok (.iconst 2, 1) := by decide +kernel
theorem dX8_forbids_47 : decode cX8_forbids 47 = .ok (.invokevirtual 48, 3) := by decide +kernel
theorem dX8_forbids_50 : decode cX8_forbids 50 = .ok (.ireturn, 1) := by decide +kernel
theorem dX8_b_0 : decode cX8_b 0 = .ok (.aload_n 0, 1) := by decide +kernel
theorem dX8_b_1 : decode cX8_b 1 = .ok (.getfield 9, 3) := by decide +kernel
theorem dX8_b_4 : decode cX8_b 4 = .ok (.sipush 656, 3) := by decide +kernel
theorem dX8_b_7 : decode cX8_b 7 = .ok (.bipush 7, 2) := by decide +kernel
theorem dX8_b_9 : decode cX8_b 9 = .ok (.iload_n 1, 1) := by decide +kernel
theorem dX8_b_10 : decode cX8_b 10 = .ok (.imul, 1) := by decide +kernel
theorem dX8_b_11 : decode cX8_b 11 = .ok (.iadd, 1) := by decide +kernel
theorem dX8_b_12 : decode cX8_b 12 = .ok (.iload_n 2, 1) := by decide +kernel
theorem dX8_b_13 : decode cX8_b 13 = .ok (.iadd, 1) := by decide +kernel
theorem dX8_b_14 : decode cX8_b 14 = .ok (.iaload, 1) := by decide +kernel
theorem dX8_b_15 : decode cX8_b 15 = .ok (.ireturn, 1) := by decide +kernel
theorem dX8_setB_0 : decode cX8_setB 0 = .ok (.aload_n 0, 1) := by decide +kernel
theorem dX8_setB_1 : decode cX8_setB 1 = .ok (.getfield 9, 3) := by decide +kernel
theorem dX8_setB_4 : decode cX8_setB 4 = .ok (.sipush 656, 3) := by decide +kernel
theorem dX8_setB_7 : decode cX8_setB 7 = .ok (.bipush 7, 2) := by decide +kernel
theorem dX8_setB_9 : decode cX8_setB 9 = .ok (.iload_n 1, 1) := by decide +kernel
theorem dX8_setB_10 : decode cX8_setB 10 = .ok (.imul, 1) := by decide +kernel
theorem dX8_setB_11 : decode cX8_setB 11 = .ok (.iadd, 1) := by decide +kernel
theorem dX8_setB_12 : decode cX8_setB 12 = .ok (.iload_n 2, 1) := by decide +kernel
theorem dX8_setB_13 : decode cX8_setB 13 = .ok (.iadd, 1) := by decide +kernel
theorem dX8_setB_14 : decode cX8_setB 14 = .ok (.iload_n 3, 1) := by decide +kernel
theorem dX8_setB_15 : decode cX8_setB 15 = .ok (.iastore, 1) := by decide +kernel
theorem dX8_setB_16 : decode cX8_setB 16 = .ok (.return_, 1) := by decide +kernel
theorem dX8_isBottling_0 : decode cX8_isBottling 0 = .ok (.iload_n 1, 1) := by decide +kernel
theorem dX8_isBottling_1 : decode cX8_isBottling 1 = .ok (.iconst 0, 1) := by decide +kernel
theorem dX8_isBottling_2 : decode cX8_isBottling 2 = .ok (.aload_n 0, 1) := by decide +kernel
theorem dX8_isBottling_3 : decode cX8_isBottling 3 = .ok (.getfield 9, 3) := by decide +kernel
theorem dX8_isBottling_6 : decode cX8_isBottling 6 = .ok (.iconst 2, 1) := by decide +kernel
theorem dX8_isBottling_7 : decode cX8_isBottling 7 = .ok (.iaload, 1) := by decide +kernel
theorem dX8_isBottling_8 : decode cX8_isBottling 8 = .ok (.iconst 1, 1) := by decide +kernel
theorem dX8_isBottling_9 : decode cX8_isBottling 9 = .ok (.isub, 1) := by decide +kernel
theorem dX8_isBottling_10 : decode cX8_isBottling 10 = .ok (.invokestatic 55, 3) := by decide +kernel
theorem dX8_isBottling_13 : decode cX8_isBottling 13 = .ok (.ireturn, 1) := by decide +kernel
theorem dX8_isAllowedNow_0 : decode cX8_isAllowedNow 0 = .ok (.aload_n 0, 1) := by decide +kernel
theorem dX8_isAllowedNow_1 : decode cX8_isAllowedNow 1 = .ok (.aload_n 0, 1) := by decide +kernel
theorem dX8_isAllowedNow_2 : decode cX8_isAllowedNow 2 = .ok (.iload_n 1, 1) := by decide +kernel
theorem dX8_isAllowedNow_3 : decode cX8_isAllowedNow 3 = .ok (.iconst 0, 1) := by decide +kernel
theorem dX8_isAllowedNow_4 : decode cX8_isAllowedNow 4 = .ok (.invokevirtual 169, 3) := by decide +kernel
theorem dX8_isAllowedNow_7 : decode cX8_isAllowedNow 7 = .ok (.aload_n 0, 1) := by decide +kernel
theorem dX8_isAllowedNow_8 : decode cX8_isAllowedNow 8 = .ok (.iload_n 1, 1) := by decide +kernel
theorem dX8_isAllowedNow_9 : decode cX8_isAllowedNow 9 = .ok (.iconst 3, 1) := by decide +kernel
theorem dX8_isAllowedNow_10 : decode cX8_isAllowedNow 10 = .ok (.invokevirtual 169, 3) := by decide +kernel
theorem dX8_isAllowedNow_13 : decode cX8_isAllowedNow 13 = .ok (.aload_n 0, 1) := by decide +kernel
theorem dX8_isAllowedNow_14 : decode cX8_isAllowedNow 14 = .ok (.iload_n 1, 1) := by decide +kernel
theorem dX8_isAllowedNow_15 : decode cX8_isAllowedNow 15 = .ok (.iconst 4, 1) := by decide +kernel
theorem dX8_isAllowedNow_16 : decode cX8_isAllowedNow 16 = .ok (.invokevirtual 169, 3) := by decide +kernel
theorem dX8_isAllowedNow_19 : decode cX8_isAllowedNow 19 = .ok (.aload_n 0, 1) := by decide +kernel
theorem dX8_isAllowedNow_20 : decode cX8_isAllowedNow 20 = .ok (.iload_n 1, 1) := by decide +kernel
theorem dX8_isAllowedNow_21 : decode cX8_isAllowedNow 21 = .ok (.iconst 5, 1) := by decide +kernel
theorem dX8_isAllowedNow_22 : decode cX8_isAllowedNow 22 = .ok (.invokevirtual 169, 3) := by decide +kernel
theorem dX8_isAllowedNow_25 : decode cX8_isAllowedNow 25 = .ok (.aload_n 0, 1) := by decide +kernel
theorem dX8_isAllowedNow_26 : decode cX8_isAllowedNow 26 = .ok (.iload_n 1, 1) := by decide +kernel
theorem dX8_isAllowedNow_27 : decode cX8_isAllowedNow 27 = .ok (.bipush 6, 2) := by decide +kernel
theorem dX8_isAllowedNow_29 : decode cX8_isAllowedNow 29 = .ok (.invokevirtual 169, 3) := by decide +kernel
theorem dX8_isAllowedNow_32 : decode cX8_isAllowedNow 32 = .ok (.invokevirtual 162, 3) := by decide +kernel
theorem dX8_isAllowedNow_35 : decode cX8_isAllowedNow 35 = .ok (.ifCond .ne 7, 3) := by decide +kernel
theorem dX8_isAllowedNow_38 : decode cX8_isAllowedNow 38 = .ok (.iconst 1, 1) := by decide +kernel
theorem dX8_isAllowedNow_39 : decode cX8_isAllowedNow 39 = .ok (.goto 4, 3) := by decide +kernel
theorem dX8_isAllowedNow_42 : decode cX8_isAllowedNow 42 = .ok (.iconst 0, 1) := by decide +kernel
theorem dX8_isAllowedNow_43 : decode cX8_isAllowedNow 43 = .ok (.ireturn, 1) := by decide +kernel
theorem dX8_bottling_0 : decode cX8_bottling 0 = .ok (.aload_n 0, 1) := by decide +kernel
theorem dX8_bottling_1 : decode cX8_bottling 1 = .ok (.iconst 0, 1) := by decide +kernel
theorem dX8_bottling_2 : decode cX8_bottling 2 = .ok (.putfield 42, 3) := by decide +kernel
theorem dX8_bottling_5 : decode cX8_bottling 5 = .ok (.aload_n 0, 1) := by decide +kernel
theorem dX8_bottling_6 : decode cX8_bottling 6 = .ok (.iload_n 1, 1) := by decide +kernel
theorem dX8_bottling_7 : decode cX8_bottling 7 = .ok (.invokevirtual 172, 3) := by decide +kernel
theorem dX8_bottling_10 : decode cX8_bottling 10 = .ok (.ifCond .ne 9, 3) := by decide +kernel
theorem dX8_bottling_13 : decode cX8_bottling 13 = .ok (.aload_n 0, 1) := by decide +kernel
theorem dX8_bottling_14 : decode cX8_bottling 14 = .ok (.iconst 1, 1) := by decide +kernel
theorem dX8_bottling_15 : decode cX8_bottling 15 = .ok (.invokevirtual 48, 3) := by decide +kernel
theorem dX8_bottling_18 : decode cX8_bottling 18 = .ok (.ireturn, 1) := by decide +kernel
theorem dX8_bottling_19 : decode cX8_bottling 19 = .ok (.iload_n 2, 1) := by decide +kernel
theorem dX8_bottling_20 : decode cX8_bottling 20 = .ok (.iconst 0, 1) := by decide +kernel
theorem dX8_bottling_21 : decode cX8_bottling 21 = .ok (.bipush 6, 2) := by decide +kernel
theorem dX8_bottling_23 : decode cX8_bottling 23 = .ok (.invokestatic 55, 3) := by decide +kernel
theorem dX8_bottling_26 : decode cX8_bottling 26 = .ok (.ifCond .eq 10, 3) := by decide +kernel
theorem dX8_bottling_29 : decode cX8_bottling 29 = .ok (.aload_n 0, 1) := by decide +kernel
theorem dX8_bottling_30 : decode cX8_bottling 30 = .ok (.iload_n 1, 1) := by decide +kernel
theorem dX8_bottling_31 : decode cX8_bottling 31 = .ok (.iload_n 2, 1) := by decide +kernel
theorem dX8_bottling_32 : decode cX8_bottling 32 = .ok (.invokevirtual 169, 3) := by decide +kernel
theorem dX8_bottling_35 : decode cX8_bottling 35 = .ok (.ireturn, 1) := by decide +kernel
theorem dX8_bottling_36 : decode cX8_bottling 36 = .ok (.iload_n 2, 1) := by decide +kernel
theorem dX8_bottling_37 : decode cX8_bottling 37 = .ok (.bipush 7, 2) := by decide +kernel
theorem dX8_bottling_39 : decode cX8_bottling 39 = .ok (.if_icmp .ne 11, 3) := by decide +kernel
theorem dX8_bottling_42 : decode cX8_bottling 42 = .ok (.aload_n 0, 1) := by decide +kernel
theorem dX8_bottling_43 : decode cX8_bottling 43 = .ok (.iload_n 1, 1) := by decide +kernel
theorem dX8_bottling_44 : decode cX8_bottling 44 = .ok (.invokevirtual 175, 3) := by decide +kernel
theorem dX8_bottling_47 : decode cX8_bottling 47 = .ok (.goto 30, 3) := by decide +kernel
theorem dX8_bottling_50 : decode cX8_bottling 50 = .ok (.iload_n 2, 1) := by decide +kernel
theorem dX8_bottling_51 : decode cX8_bottling 51 = .ok (.bipush 8, 2) := by decide +kernel
theorem dX8_bottling_53 : decode cX8_bottling 53 = .ok (.if_icmp .ne 19, 3) := by decide +kernel
theorem dX8_bottling_56 : decode cX8_bottling 56 = .ok (.aload_n 0, 1) := by decide +kernel
theorem dX8_bottling_57 : decode cX8_bottling 57 = .ok (.iload_n 1, 1) := by decide +kernel
theorem dX8_bottling_58 : decode cX8_bottling 58 = .ok (.invokevirtual 178, 3) := by decide +kernel
theorem dX8_bottling_61 : decode cX8_bottling 61 = .ok (.ifCond .eq 7, 3) := by decide +kernel
theorem dX8_bottling_64 : decode cX8_bottling 64 = .ok (.iconst 1, 1) := by decide +kernel
theorem dX8_bottling_65 : decode cX8_bottling 65 = .ok (.goto 12, 3) := by decide +kernel
theorem dX8_bottling_68 : decode cX8_bottling 68 = .ok (.iconst 0, 1) := by decide +kernel
theorem dX8_bottling_69 : decode cX8_bottling 69 = .ok (.goto 8, 3) := by decide +kernel
theorem dX8_bottling_72 : decode cX8_bottling 72 = .ok (.aload_n 0, 1) := by decide +kernel
theorem dX8_bottling_73 : decode cX8_bottling 73 = .ok (.iconst 2, 1) := by decide +kernel
theorem dX8_bottling_74 : decode cX8_bottling 74 = .ok (.invokevirtual 48, 3) := by decide +kernel
theorem dX8_bottling_77 : decode cX8_bottling 77 = .ok (.ireturn, 1) := by decide +kernel
theorem dX8_reason_0 : decode cX8_reason 0 = .ok (.aload_n 0, 1) := by decide +kernel
theorem dX8_reason_1 : decode cX8_reason 1 = .ok (.aload_n 0, 1) := by decide +kernel
theorem dX8_reason_2 : decode cX8_reason 2 = .ok (.getfield 45, 3) := by decide +kernel
theorem dX8_reason_5 : decode cX8_reason 5 = .ok (.ifCond .ne 7, 3) := by decide +kernel
theorem dX8_reason_8 : decode cX8_reason 8 = .ok (.iconst 1, 1) := by decide +kernel
theorem dX8_reason_9 : decode cX8_reason 9 = .ok (.goto 4, 3) := by decide +kernel
theorem dX8_reason_12 : decode cX8_reason 12 = .ok (.iconst 0, 1) := by decide +kernel
theorem dX8_reason_13 : decode cX8_reason 13 = .ok (.putfield 42, 3) := by decide +kernel
theorem dX8_reason_16 : decode cX8_reason 16 = .ok (.aload_n 0, 1) := by decide +kernel
theorem dX8_reason_17 : decode cX8_reason 17 = .ok (.getfield 45, 3) := by decide +kernel
theorem dX8_reason_20 : decode cX8_reason 20 = .ok (.ireturn, 1) := by decide +kernel
theorem dX8_isCustomer_0 : decode cX8_isCustomer 0 = .ok (.iload_n 1, 1) := by decide +kernel
theorem dX8_isCustomer_1 : decode cX8_isCustomer 1 = .ok (.iconst 0, 1) := by decide +kernel
theorem dX8_isCustomer_2 : decode cX8_isCustomer 2 = .ok (.aload_n 0, 1) := by decide +kernel
theorem dX8_isCustomer_3 : decode cX8_isCustomer 3 = .ok (.getfield 9, 3) := by decide +kernel
theorem dX8_isCustomer_6 : decode cX8_isCustomer 6 = .ok (.iconst 3, 1) := by decide +kernel
theorem dX8_isCustomer_7 : decode cX8_isCustomer 7 = .ok (.iaload, 1) := by decide +kernel
theorem dX8_isCustomer_8 : decode cX8_isCustomer 8 = .ok (.iconst 1, 1) := by decide +kernel
theorem dX8_isCustomer_9 : decode cX8_isCustomer 9 = .ok (.isub, 1) := by decide +kernel
theorem dX8_isCustomer_10 : decode cX8_isCustomer 10 = .ok (.invokestatic 55, 3) := by decide +kernel
theorem dX8_isCustomer_13 : decode cX8_isCustomer 13 = .ok (.ireturn, 1) := by decide +kernel
theorem dX8_held_0 : decode cX8_held 0 = .ok (.aload_n 0, 1) := by decide +kernel
theorem dX8_held_1 : decode cX8_held 1 = .ok (.getfield 9, 3) := by decide +kernel
theorem dX8_held_4 : decode cX8_held 4 = .ok (.sipush 776, 3) := by decide +kernel
theorem dX8_held_7 : decode cX8_held 7 = .ok (.bipush 16, 2) := by decide +kernel
theorem dX8_held_9 : decode cX8_held 9 = .ok (.iload_n 1, 1) := by decide +kernel
theorem dX8_held_10 : decode cX8_held 10 = .ok (.imul, 1) := by decide +kernel
theorem dX8_held_11 : decode cX8_held 11 = .ok (.iadd, 1) := by decide +kernel
theorem dX8_held_12 : decode cX8_held 12 = .ok (.iload_n 2, 1) := by decide +kernel
theorem dX8_held_13 : decode cX8_held 13 = .ok (.iadd, 1) := by decide +kernel
theorem dX8_held_14 : decode cX8_held 14 = .ok (.iaload, 1) := by decide +kernel
theorem dX8_held_15 : decode cX8_held 15 = .ok (.ireturn, 1) := by decide +kernel
theorem dX8_wished_0 : decode cX8_wished 0 = .ok (.aload_n 0, 1) := by decide +kernel
theorem dX8_wished_1 : decode cX8_wished 1 = .ok (.getfield 9, 3) := by decide +kernel
theorem dX8_wished_4 : decode cX8_wished 4 = .ok (.sipush 904, 3) := by decide +kernel
theorem dX8_wished_7 : decode cX8_wished 7 = .ok (.bipush 16, 2) := by decide +kernel
theorem dX8_wished_9 : decode cX8_wished 9 = .ok (.iload_n 1, 1) := by decide +kernel
theorem dX8_wished_10 : decode cX8_wished 10 = .ok (.imul, 1) := by decide +kernel
theorem dX8_wished_11 : decode cX8_wished 11 = .ok (.iadd, 1) := by decide +kernel
theorem dX8_wished_12 : decode cX8_wished 12 = .ok (.iload_n 2, 1) := by decide +kernel
theorem dX8_wished_13 : decode cX8_wished 13 = .ok (.iadd, 1) := by decide +kernel
theorem dX8_wished_14 : decode cX8_wished 14 = .ok (.iaload, 1) := by decide +kernel
theorem dX8_wished_15 : decode cX8_wished 15 = .ok (.ireturn, 1) := by decide +kernel
theorem dX8_isListed_0 : decode cX8_isListed 0 = .ok (.aload_n 0, 1) := by decide +kernel
theorem dX8_isListed_1 : decode cX8_isListed 1 = .ok (.iload_n 1, 1) := by decide +kernel
theorem dX8_isListed_2 : decode cX8_isListed 2 = .ok (.iload_n 2, 1) := by decide +kernel
theorem dX8_isListed_3 : decode cX8_isListed 3 = .ok (.invokevirtual 181, 3) := by decide +kernel
theorem dX8_isListed_6 : decode cX8_isListed 6 = .ok (.aload_n 0, 1) := by decide +kernel
theorem dX8_isListed_7 : decode cX8_isListed 7 = .ok (.iload_n 1, 1) := by decide +kernel
theorem dX8_isListed_8 : decode cX8_isListed 8 = .ok (.iload_n 2, 1) := by decide +kernel
theorem dX8_isListed_9 : decode cX8_isListed 9 = .ok (.invokevirtual 184, 3) := by decide +kernel
theorem dX8_isListed_12 : decode cX8_isListed 12 = .ok (.if_icmp .ge 7, 3) := by decide +kernel
theorem dX8_isListed_15 : decode cX8_isListed 15 = .ok (.iconst 1, 1) := by decide +kernel
theorem dX8_isListed_16 : decode cX8_isListed 16 = .ok (.goto 4, 3) := by decide +kernel
theorem dX8_isListed_19 : decode cX8_isListed 19 = .ok (.iconst 0, 1) := by decide +kernel
theorem dX8_isListed_20 : decode cX8_isListed 20 = .ok (.ireturn, 1) := by decide +kernel
theorem dX8_listMany_0 : decode cX8_listMany 0 = .ok (.iconst 0, 1) := by decide +kernel
theorem dX8_listMany_1 : decode cX8_listMany 1 = .ok (.istore_n 2, 1) := by decide +kernel
theorem dX8_listMany_2 : decode cX8_listMany 2 = .ok (.iconst 0, 1) := by decide +kernel
theorem dX8_listMany_3 : decode cX8_listMany 3 = .ok (.istore_n 3, 1) := by decide +kernel
theorem dX8_listMany_4 : decode cX8_listMany 4 = .ok (.iload_n 3, 1) := by decide +kernel
theorem dX8_listMany_5 : decode cX8_listMany 5 = .ok (.aload_n 0, 1) := by decide +kernel
theorem dX8_listMany_6 : decode cX8_listMany 6 = .ok (.getfield 9, 3) := by decide +kernel
theorem dX8_listMany_9 : decode cX8_listMany 9 = .ok (.iconst 3, 1) := by decide +kernel
theorem dX8_listMany_10 : decode cX8_listMany 10 = .ok (.iaload, 1) := by decide +kernel
theorem dX8_listMany_11 : decode cX8_listMany 11 = .ok (.if_icmp .ge 26, 3) := by decide +kernel
theorem dX8_listMany_14 : decode cX8_listMany 14 = .ok (.iload_n 2, 1) := by decide +kernel
theorem dX8_listMany_15 : decode cX8_listMany 15 = .ok (.aload_n 0, 1) := by decide +kernel
theorem dX8_listMany_16 : decode cX8_listMany 16 = .ok (.iload_n 3, 1) := by decide +kernel
theorem dX8_listMany_17 : decode cX8_listMany 17 = .ok (.iload_n 1, 1) := by decide +kernel
theorem dX8_listMany_18 : decode cX8_listMany 18 = .ok (.invokevirtual 187, 3) := by decide +kernel
theorem dX8_listMany_21 : decode cX8_listMany 21 = .ok (.ifCond .eq 7, 3) := by decide +kernel
theorem dX8_listMany_24 : decode cX8_listMany 24 = .ok (.iconst 1, 1) := by decide +kernel
theorem dX8_listMany_25 : decode cX8_listMany 25 = .ok (.goto 4, 3) := by decide +kernel
theorem dX8_listMany_28 : decode cX8_listMany 28 = .ok (.iconst 0, 1) := by decide +kernel
theorem dX8_listMany_29 : decode cX8_listMany 29 = .ok (.iadd, 1) := by decide +kernel
theorem dX8_listMany_30 : decode cX8_listMany 30 = .ok (.istore_n 2, 1) := by decide +kernel
theorem dX8_listMany_31 : decode cX8_listMany 31 = .ok (.iinc 3 1, 3) := by decide +kernel
theorem dX8_listMany_34 : decode cX8_listMany 34 = .ok (.goto (-30), 3) := by decide +kernel
theorem dX8_listMany_37 : decode cX8_listMany 37 = .ok (.iload_n 2, 1) := by decide +kernel
theorem dX8_listMany_38 : decode cX8_listMany 38 = .ok (.ireturn, 1) := by decide +kernel
theorem dX8_isAhead_0 : decode cX8_isAhead 0 = .ok (.aload_n 0, 1) := by decide +kernel
theorem dX8_isAhead_1 : decode cX8_isAhead 1 = .ok (.getfield 9, 3) := by decide +kernel
theorem dX8_isAhead_4 : decode cX8_isAhead 4 = .ok (.sipush 768, 3) := by decide +kernel
theorem dX8_isAhead_7 : decode cX8_isAhead 7 = .ok (.iload_n 1, 1) := by decide +kernel
theorem dX8_isAhead_8 : decode cX8_isAhead 8 = .ok (.iadd, 1) := by decide +kernel
theorem dX8_isAhead_9 : decode cX8_isAhead 9 = .ok (.iaload, 1) := by decide +kernel
theorem dX8_isAhead_10 : decode cX8_isAhead 10 = .ok (.aload_n 0, 1) := by decide +kernel
theorem dX8_isAhead_11 : decode cX8_isAhead 11 = .ok (.getfield 9, 3) := by decide +kernel
theorem dX8_isAhead_14 : decode cX8_isAhead 14 = .ok (.sipush 768, 3) := by decide +kernel
theorem dX8_isAhead_17 : decode cX8_isAhead 17 = .ok (.iload_n 2, 1) := by decide +kernel
theorem dX8_isAhead_18 : decode cX8_isAhead 18 = .ok (.iadd, 1) := by decide +kernel
theorem dX8_isAhead_19 : decode cX8_isAhead 19 = .ok (.iaload, 1) := by decide +kernel
theorem dX8_isAhead_20 : decode cX8_isAhead 20 = .ok (.isub, 1) := by decide +kernel
theorem dX8_isAhead_21 : decode cX8_isAhead 21 = .ok (.istore_n 3, 1) := by decide +kernel
theorem dX8_isAhead_22 : decode cX8_isAhead 22 = .ok (.iload_n 3, 1) := by decide +kernel
theorem dX8_isAhead_23 : decode cX8_isAhead 23 = .ok (.ifCond .eq 15, 3) := by decide +kernel
theorem dX8_isAhead_26 : decode cX8_isAhead 26 = .ok (.iload_n 3, 1) := by decide +kernel
theorem dX8_isAhead_27 : decode cX8_isAhead 27 = .ok (.ifCond .ge 7, 3) := by decide +kernel
theorem dX8_isAhead_30 : decode cX8_isAhead 30 = .ok (.iconst 1, 1) := by decide +kernel
theorem dX8_isAhead_31 : decode cX8_isAhead 31 = .ok (.goto 17, 3) := by decide +kernel
theorem dX8_isAhead_34 : decode cX8_isAhead 34 = .ok (.iconst 0, 1) := by decide +kernel
theorem dX8_isAhead_35 : decode cX8_isAhead 35 = .ok (.goto 13, 3) := by decide +kernel
theorem dX8_isAhead_38 : decode cX8_isAhead 38 = .ok (.iload_n 1, 1) := by decide +kernel
theorem dX8_isAhead_39 : decode cX8_isAhead 39 = .ok (.iload_n 2, 1) := by decide +kernel
theorem dX8_isAhead_40 : decode cX8_isAhead 40 = .ok (.if_icmp .ge 7, 3) := by decide +kernel
theorem dX8_isAhead_43 : decode cX8_isAhead 43 = .ok (.iconst 1, 1) := by decide +kernel
theorem dX8_isAhead_44 : decode cX8_isAhead 44 = .ok (.goto 4, 3) := by decide +kernel
theorem dX8_isAhead_47 : decode cX8_isAhead 47 = .ok (.iconst 0, 1) := by decide +kernel
theorem dX8_isAhead_48 : decode cX8_isAhead 48 = .ok (.ireturn, 1) := by decide +kernel
theorem dX8_placeOf_0 : decode cX8_placeOf 0 = .ok (.iconst 0, 1) := by decide +kernel
theorem dX8_placeOf_1 : decode cX8_placeOf 1 = .ok (.istore_n 3, 1) := by decide +kernel
theorem dX8_placeOf_2 : decode cX8_placeOf 2 = .ok (.iconst 0, 1) := by decide +kernel
theorem dX8_placeOf_3 : decode cX8_placeOf 3 = .ok (.istore 4, 2) := by decide +kernel
theorem dX8_placeOf_5 : decode cX8_placeOf 5 = .ok (.iload 4, 2) := by decide +kernel
theorem dX8_placeOf_7 : decode cX8_placeOf 7 = .ok (.aload_n 0, 1) := by decide +kernel
theorem dX8_placeOf_8 : decode cX8_placeOf 8 = .ok (.getfield 9, 3) := by decide +kernel
theorem dX8_placeOf_11 : decode cX8_placeOf 11 = .ok (.iconst 3, 1) := by decide +kernel
theorem dX8_placeOf_12 : decode cX8_placeOf 12 = .ok (.iaload, 1) := by decide +kernel
theorem dX8_placeOf_13 : decode cX8_placeOf 13 = .ok (.if_icmp .ge 37, 3) := by decide +kernel
theorem dX8_placeOf_16 : decode cX8_placeOf 16 = .ok (.iload_n 3, 1) := by decide +kernel
theorem dX8_placeOf_17 : decode cX8_placeOf 17 = .ok (.aload_n 0, 1) := by decide +kernel
theorem dX8_placeOf_18 : decode cX8_placeOf 18 = .ok (.iload 4, 2) := by decide +kernel
theorem dX8_placeOf_20 : decode cX8_placeOf 20 = .ok (.iload_n 2, 1) := by decide +kernel
theorem dX8_placeOf_21 : decode cX8_placeOf 21 = .ok (.invokevirtual 187, 3) := by decide +kernel
theorem dX8_placeOf_24 : decode cX8_placeOf 24 = .ok (.ifCond .eq 17, 3) := by decide +kernel
theorem dX8_placeOf_27 : decode cX8_placeOf 27 = .ok (.aload_n 0, 1) := by decide +kernel
theorem dX8_placeOf_28 : decode cX8_placeOf 28 = .ok (.iload 4, 2) := by decide +kernel
theorem dX8_placeOf_30 : decode cX8_placeOf 30 = .ok (.iload_n 1, 1) := by decide +kernel
theorem dX8_placeOf_31 : decode cX8_placeOf 31 = .ok (.invokevirtual 190, 3) := by decide +kernel
theorem dX8_placeOf_34 : decode cX8_placeOf 34 = .ok (.ifCond .eq 7, 3) := by decide +kernel
theorem dX8_placeOf_37 : decode cX8_placeOf 37 = .ok (.iconst 1, 1) := by decide +kernel
theorem dX8_placeOf_38 : decode cX8_placeOf 38 = .ok (.goto 4, 3) := by decide +kernel
theorem dX8_placeOf_41 : decode cX8_placeOf 41 = .ok (.iconst 0, 1) := by decide +kernel
theorem dX8_placeOf_42 : decode cX8_placeOf 42 = .ok (.iadd, 1) := by decide +kernel
theorem dX8_placeOf_43 : decode cX8_placeOf 43 = .ok (.istore_n 3, 1) := by decide +kernel
theorem dX8_placeOf_44 : decode cX8_placeOf 44 = .ok (.iinc 4 1, 3) := by decide +kernel
theorem dX8_placeOf_47 : decode cX8_placeOf 47 = .ok (.goto (-42), 3) := by decide +kernel
theorem dX8_placeOf_50 : decode cX8_placeOf 50 = .ok (.aload_n 0, 1) := by decide +kernel
theorem dX8_placeOf_51 : decode cX8_placeOf 51 = .ok (.iload_n 1, 1) := by decide +kernel
theorem dX8_placeOf_52 : decode cX8_placeOf 52 = .ok (.iload_n 2, 1) := by decide +kernel
theorem dX8_placeOf_53 : decode cX8_placeOf 53 = .ok (.invokevirtual 187, 3) := by decide +kernel
theorem dX8_placeOf_56 : decode cX8_placeOf 56 = .ok (.ifCond .eq 7, 3) := by decide +kernel
theorem dX8_placeOf_59 : decode cX8_placeOf 59 = .ok (.iload_n 3, 1) := by decide +kernel
theorem dX8_placeOf_60 : decode cX8_placeOf 60 = .ok (.goto 4, 3) := by decide +kernel
theorem dX8_placeOf_63 : decode cX8_placeOf 63 = .ok (.iconst (-1), 1) := by decide +kernel
theorem dX8_placeOf_64 : decode cX8_placeOf 64 = .ok (.ireturn, 1) := by decide +kernel
theorem dX8_customerAt_0 : decode cX8_customerAt 0 = .ok (.iconst 0, 1) := by decide +kernel
theorem dX8_customerAt_1 : decode cX8_customerAt 1 = .ok (.istore_n 3, 1) := by decide +kernel
theorem dX8_customerAt_2 : decode cX8_customerAt 2 = .ok (.iload_n 3, 1) := by decide +kernel
theorem dX8_customerAt_3 : decode cX8_customerAt 3 = .ok (.aload_n 0, 1) := by decide +kernel
theorem dX8_customerAt_4 : decode cX8_customerAt 4 = .ok (.getfield 9, 3) := by decide +kernel
theorem dX8_customerAt_7 : decode cX8_customerAt 7 = .ok (.iconst 3, 1) := by decide +kernel
theorem dX8_customerAt_8 : decode cX8_customerAt 8 = .ok (.iaload, 1) := by decide +kernel
theorem dX8_customerAt_9 : decode cX8_customerAt 9 = .ok (.if_icmp .ge 25, 3) := by decide +kernel
theorem dX8_customerAt_12 : decode cX8_customerAt 12 = .ok (.iload_n 2, 1) := by decide +kernel
theorem dX8_customerAt_13 : decode cX8_customerAt 13 = .ok (.ifCond .lt 21, 3) := by decide +kernel
theorem dX8_customerAt_16 : decode cX8_customerAt 16 = .ok (.aload_n 0, 1) := by decide +kernel
theorem dX8_customerAt_17 : decode cX8_customerAt 17 = .ok (.iload_n 3, 1) := by decide +kernel
theorem dX8_customerAt_18 : decode cX8_customerAt 18 = .ok (.iload_n 1, 1) := by decide +kernel
theorem dX8_customerAt_19 : decode cX8_customerAt 19 = .ok (.invokevirtual 193, 3) := by decide +kernel
theorem dX8_customerAt_22 : decode cX8_customerAt 22 = .ok (.iload_n 2, 1) := by decide +kernel
theorem dX8_customerAt_23 : decode cX8_customerAt 23 = .ok (.if_icmp .ne 5, 3) := by decide +kernel
theorem dX8_customerAt_26 : decode cX8_customerAt 26 = .ok (.iload_n 3, 1) := by decide +kernel
theorem dX8_customerAt_27 : decode cX8_customerAt 27 = .ok (.ireturn, 1) := by decide +kernel
theorem dX8_customerAt_28 : decode cX8_customerAt 28 = .ok (.iinc 3 1, 3) := by decide +kernel
theorem dX8_customerAt_31 : decode cX8_customerAt 31 = .ok (.goto (-29), 3) := by decide +kernel
theorem dX8_customerAt_34 : decode cX8_customerAt 34 = .ok (.iconst (-1), 1) := by decide +kernel
theorem dX8_customerAt_35 : decode cX8_customerAt 35 = .ok (.ireturn, 1) := by decide +kernel
theorem dX8_addCustomer_0 : decode cX8_addCustomer 0 = .ok (.aload_n 0, 1) := by decide +kernel
theorem dX8_addCustomer_1 : decode cX8_addCustomer 1 = .ok (.iload_n 1, 1) := by decide +kernel
theorem dX8_addCustomer_2 : decode cX8_addCustomer 2 = .ok (.iconst 0, 1) := by decide +kernel
theorem dX8_addCustomer_3 : decode cX8_addCustomer 3 = .ok (.iconst 2, 1) := by decide +kernel
theorem dX8_addCustomer_4 : decode cX8_addCustomer 4 = .ok (.invokestatic 55, 3) := by decide +kernel
theorem dX8_addCustomer_7 : decode cX8_addCustomer 7 = .ok (.ifCond .ne 7, 3) := by decide +kernel
theorem dX8_addCustomer_10 : decode cX8_addCustomer 10 = .ok (.iconst 1, 1) := by decide +kernel
theorem dX8_addCustomer_11 : decode cX8_addCustomer 11 = .ok (.goto 19, 3) := by decide +kernel
theorem dX8_addCustomer_14 : decode cX8_addCustomer 14 = .ok (.aload_n 0, 1) := by decide +kernel
theorem dX8_addCustomer_15 : decode cX8_addCustomer 15 = .ok (.getfield 9, 3) := by decide +kernel
theorem dX8_addCustomer_18 : decode cX8_addCustomer 18 = .ok (.iconst 3, 1) := by decide +kernel
theorem dX8_addCustomer_19 : decode cX8_addCustomer 19 = .ok (.iaload, 1) := by decide +kernel
theorem dX8_addCustomer_20 : decode cX8_addCustomer 20 = .ok (.bipush 8, 2) := by decide +kernel
theorem dX8_addCustomer_22 : decode cX8_addCustomer 22 = .ok (.if_icmp .ne 7, 3) := by decide +kernel
theorem dX8_addCustomer_25 : decode cX8_addCustomer 25 = .ok (.iconst 2, 1) := by decide +kernel
theorem dX8_addCustomer_26 : decode cX8_addCustomer 26 = .ok (.goto 4, 3) := by decide +kernel
theorem dX8_addCustomer_29 : decode cX8_addCustomer 29 = .ok (.iconst 0, 1) := by decide +kernel
theorem dX8_addCustomer_30 : decode cX8_addCustomer 30 = .ok (.putfield 42, 3) := by decide +kernel
theorem dX8_addCustomer_33 : decode cX8_addCustomer 33 = .ok (.aload_n 0, 1) := by decide +kernel
theorem dX8_addCustomer_34 : decode cX8_addCustomer 34 = .ok (.getfield 42, 3) := by decide +kernel
theorem dX8_addCustomer_37 : decode cX8_addCustomer 37 = .ok (.ifCond .eq 5, 3) := by decide +kernel
theorem dX8_addCustomer_40 : decode cX8_addCustomer 40 = .ok (.iconst 0, 1) := by decide +kernel
theorem dX8_addCustomer_41 : decode cX8_addCustomer 41 = .ok (.ireturn, 1) := by decide +kernel
theorem dX8_addCustomer_42 : decode cX8_addCustomer 42 = .ok (.aload_n 0, 1) := by decide +kernel
theorem dX8_addCustomer_43 : decode cX8_addCustomer 43 = .ok (.invokevirtual 63, 3) := by decide +kernel
theorem dX8_addCustomer_46 : decode cX8_addCustomer 46 = .ok (.aload_n 0, 1) := by decide +kernel
theorem dX8_addCustomer_47 : decode cX8_addCustomer 47 = .ok (.getfield 9, 3) := by decide +kernel
theorem dX8_addCustomer_50 : decode cX8_addCustomer 50 = .ok (.iconst 3, 1) := by decide +kernel
theorem dX8_addCustomer_51 : decode cX8_addCustomer 51 = .ok (.iaload, 1) := by decide +kernel
theorem dX8_addCustomer_52 : decode cX8_addCustomer 52 = .ok (.istore_n 2, 1) := by decide +kernel
theorem dX8_addCustomer_53 : decode cX8_addCustomer 53 = .ok (.aload_n 0, 1) := by decide +kernel
theorem dX8_addCustomer_54 : decode cX8_addCustomer 54 = .ok (.getfield 9, 3) := by decide +kernel
theorem dX8_addCustomer_57 : decode cX8_addCustomer 57 = .ok (.sipush 768, 3) := by decide +kernel
theorem dX8_addCustomer_60 : decode cX8_addCustomer 60 = .ok (.iload_n 2, 1) := by decide +kernel
theorem dX8_addCustomer_61 : decode cX8_addCustomer 61 = .ok (.iadd, 1) := by decide +kernel
theorem dX8_addCustomer_62 : decode cX8_addCustomer 62 = .ok (.iload_n 1, 1) := by decide +kernel
theorem dX8_addCustomer_63 : decode cX8_addCustomer 63 = .ok (.iastore, 1) := by decide +kernel
theorem dX8_addCustomer_64 : decode cX8_addCustomer 64 = .ok (.aload_n 0, 1) := by decide +kernel
theorem dX8_addCustomer_65 : decode cX8_addCustomer 65 = .ok (.getfield 9, 3) := by decide +kernel
theorem dX8_addCustomer_68 : decode cX8_addCustomer 68 = .ok (.iconst 3, 1) := by decide +kernel
theorem dX8_addCustomer_69 : decode cX8_addCustomer 69 = .ok (.dup2, 1) := by decide +kernel
theorem dX8_addCustomer_70 : decode cX8_addCustomer 70 = .ok (.iaload, 1) := by decide +kernel
theorem dX8_addCustomer_71 : decode cX8_addCustomer 71 = .ok (.iconst 1, 1) := by decide +kernel
theorem dX8_addCustomer_72 : decode cX8_addCustomer 72 = .ok (.iadd, 1) := by decide +kernel
theorem dX8_addCustomer_73 : decode cX8_addCustomer 73 = .ok (.iastore, 1) := by decide +kernel
theorem dX8_addCustomer_74 : decode cX8_addCustomer 74 = .ok (.iload_n 2, 1) := by decide +kernel
theorem dX8_addCustomer_75 : decode cX8_addCustomer 75 = .ok (.ireturn, 1) := by decide +kernel
theorem dX8_wish_0 : decode cX8_wish 0 = .ok (.aload_n 0, 1) := by decide +kernel
theorem dX8_wish_1 : decode cX8_wish 1 = .ok (.iconst 0, 1) := by decide +kernel
theorem dX8_wish_2 : decode cX8_wish 2 = .ok (.putfield 42, 3) := by decide +kernel
theorem dX8_wish_5 : decode cX8_wish 5 = .ok (.aload_n 0, 1) := by decide +kernel
theorem dX8_wish_6 : decode cX8_wish 6 = .ok (.iload_n 1, 1) := by decide +kernel
theorem dX8_wish_7 : decode cX8_wish 7 = .ok (.invokevirtual 196, 3) := by decide +kernel
theorem dX8_wish_10 : decode cX8_wish 10 = .ok (.ifCond .eq 11, 3) := by decide +kernel
theorem dX8_wish_13 : decode cX8_wish 13 = .ok (.aload_n 0, 1) := by decide +kernel
theorem dX8_wish_14 : decode cX8_wish 14 = .ok (.iload_n 2, 1) := by decide +kernel
theorem dX8_wish_15 : decode cX8_wish 15 = .ok (.invokevirtual 172, 3) := by decide +kernel
theorem dX8_wish_18 : decode cX8_wish 18 = .ok (.ifCond .ne 9, 3) := by decide +kernel
theorem dX8_wish_21 : decode cX8_wish 21 = .ok (.aload_n 0, 1) := by decide +kernel
theorem dX8_wish_22 : decode cX8_wish 22 = .ok (.iconst 1, 1) := by decide +kernel
theorem dX8_wish_23 : decode cX8_wish 23 = .ok (.invokevirtual 48, 3) := by decide +kernel
theorem dX8_wish_26 : decode cX8_wish 26 = .ok (.ireturn, 1) := by decide +kernel
theorem dX8_wish_27 : decode cX8_wish 27 = .ok (.iload_n 3, 1) := by decide +kernel
theorem dX8_wish_28 : decode cX8_wish 28 = .ok (.iconst 0, 1) := by decide +kernel
theorem dX8_wish_29 : decode cX8_wish 29 = .ok (.sipush 3333, 3) := by decide +kernel
theorem dX8_wish_32 : decode cX8_wish 32 = .ok (.invokestatic 55, 3) := by decide +kernel
theorem dX8_wish_35 : decode cX8_wish 35 = .ok (.ifCond .ne 9, 3) := by decide +kernel
theorem dX8_wish_38 : decode cX8_wish 38 = .ok (.aload_n 0, 1) := by decide +kernel
theorem dX8_wish_39 : decode cX8_wish 39 = .ok (.iconst 2, 1) := by decide +kernel
theorem dX8_wish_40 : decode cX8_wish 40 = .ok (.invokevirtual 48, 3) := by decide +kernel
theorem dX8_wish_43 : decode cX8_wish 43 = .ok (.ireturn, 1) := by decide +kernel
theorem dX8_wish_44 : decode cX8_wish 44 = .ok (.aload_n 0, 1) := by decide +kernel
theorem dX8_wish_45 : decode cX8_wish 45 = .ok (.iload_n 1, 1) := by decide +kernel
theorem dX8_wish_46 : decode cX8_wish 46 = .ok (.iload_n 2, 1) := by decide +kernel
theorem dX8_wish_47 : decode cX8_wish 47 = .ok (.invokevirtual 184, 3) := by decide +kernel
theorem dX8_wish_50 : decode cX8_wish 50 = .ok (.istore 4, 2) := by decide +kernel
theorem dX8_wish_52 : decode cX8_wish 52 = .ok (.aload_n 0, 1) := by decide +kernel
theorem dX8_wish_53 : decode cX8_wish 53 = .ok (.invokevirtual 63, 3) := by decide +kernel
theorem dX8_wish_56 : decode cX8_wish 56 = .ok (.aload_n 0, 1) := by decide +kernel
theorem dX8_wish_57 : decode cX8_wish 57 = .ok (.getfield 9, 3) := by decide +kernel
theorem dX8_wish_60 : decode cX8_wish 60 = .ok (.sipush 904, 3) := by decide +kernel
theorem dX8_wish_63 : decode cX8_wish 63 = .ok (.bipush 16, 2) := by decide +kernel
theorem dX8_wish_65 : decode cX8_wish 65 = .ok (.iload_n 1, 1) := by decide +kernel
theorem dX8_wish_66 : decode cX8_wish 66 = .ok (.imul, 1) := by decide +kernel
theorem dX8_wish_67 : decode cX8_wish 67 = .ok (.iadd, 1) := by decide +kernel
theorem dX8_wish_68 : decode cX8_wish 68 = .ok (.iload_n 2, 1) := by decide +kernel
theorem dX8_wish_69 : decode cX8_wish 69 = .ok (.iadd, 1) := by decide +kernel
theorem dX8_wish_70 : decode cX8_wish 70 = .ok (.iload_n 3, 1) := by decide +kernel
theorem dX8_wish_71 : decode cX8_wish 71 = .ok (.iastore, 1) := by decide +kernel
theorem dX8_wish_72 : decode cX8_wish 72 = .ok (.iload 4, 2) := by decide +kernel
theorem dX8_wish_74 : decode cX8_wish 74 = .ok (.ireturn, 1) := by decide +kernel
theorem dX8_lesser_0 : decode cX8_lesser 0 = .ok (.iload_n 0, 1) := by decide +kernel
theorem dX8_lesser_1 : decode cX8_lesser 1 = .ok (.iload_n 1, 1) := by decide +kernel
theorem dX8_lesser_2 : decode cX8_lesser 2 = .ok (.if_icmp .ge 7, 3) := by decide +kernel
theorem dX8_lesser_5 : decode cX8_lesser 5 = .ok (.iload_n 0, 1) := by decide +kernel
theorem dX8_lesser_6 : decode cX8_lesser 6 = .ok (.goto 4, 3) := by decide +kernel
theorem dX8_lesser_9 : decode cX8_lesser 9 = .ok (.iload_n 1, 1) := by decide +kernel
theorem dX8_lesser_10 : decode cX8_lesser 10 = .ok (.ireturn, 1) := by decide +kernel
theorem dX8_portionOf_0 : decode cX8_portionOf 0 = .ok (.aload_n 0, 1) := by decide +kernel
theorem dX8_portionOf_1 : decode cX8_portionOf 1 = .ok (.getfield 9, 3) := by decide +kernel
theorem dX8_portionOf_4 : decode cX8_portionOf 4 = .ok (.sipush 768, 3) := by decide +kernel
theorem dX8_portionOf_7 : decode cX8_portionOf 7 = .ok (.iload_n 1, 1) := by decide +kernel
theorem dX8_portionOf_8 : decode cX8_portionOf 8 = .ok (.iadd, 1) := by decide +kernel
theorem dX8_portionOf_9 : decode cX8_portionOf 9 = .ok (.iaload, 1) := by decide +kernel
theorem dX8_portionOf_10 : decode cX8_portionOf 10 = .ok (.ifCond .ne 8, 3) := by decide +kernel
theorem dX8_portionOf_13 : decode cX8_portionOf 13 = .ok (.bipush 12, 2) := by decide +kernel
theorem dX8_portionOf_15 : decode cX8_portionOf 15 = .ok (.goto 23, 3) := by decide +kernel
theorem dX8_portionOf_18 : decode cX8_portionOf 18 = .ok (.aload_n 0, 1) := by decide +kernel
theorem dX8_portionOf_19 : decode cX8_portionOf 19 = .ok (.getfield 9, 3) := by decide +kernel
theorem dX8_portionOf_22 : decode cX8_portionOf 22 = .ok (.sipush 768, 3) := by decide +kernel
theorem dX8_portionOf_25 : decode cX8_portionOf 25 = .ok (.iload_n 1, 1) := by decide +kernel
theorem dX8_portionOf_26 : decode cX8_portionOf 26 = .ok (.iadd, 1) := by decide +kernel
theorem dX8_portionOf_27 : decode cX8_portionOf 27 = .ok (.iaload, 1) := by decide +kernel
theorem dX8_portionOf_28 : decode cX8_portionOf 28 = .ok (.iconst 1, 1) := by decide +kernel
theorem dX8_portionOf_29 : decode cX8_portionOf 29 = .ok (.if_icmp .ne 8, 3) := by decide +kernel
theorem dX8_portionOf_32 : decode cX8_portionOf 32 = .ok (.bipush 6, 2) := by decide +kernel
theorem dX8_portionOf_34 : decode cX8_portionOf 34 = .ok (.goto 4, 3) := by decide +kernel
theorem dX8_portionOf_37 : decode cX8_portionOf 37 = .ok (.iconst 3, 1) := by decide +kernel
theorem dX8_portionOf_38 : decode cX8_portionOf 38 = .ok (.ireturn, 1) := by decide +kernel
theorem dX8_round_0 : decode cX8_round 0 = .ok (.aload_n 0, 1) := by decide +kernel
theorem dX8_round_1 : decode cX8_round 1 = .ok (.iload_n 1, 1) := by decide +kernel
theorem dX8_round_2 : decode cX8_round 2 = .ok (.invokevirtual 175, 3) := by decide +kernel
theorem dX8_round_5 : decode cX8_round 5 = .ok (.istore_n 2, 1) := by decide +kernel
theorem dX8_round_6 : decode cX8_round 6 = .ok (.iconst 0, 1) := by decide +kernel
theorem dX8_round_7 : decode cX8_round 7 = .ok (.istore_n 3, 1) := by decide +kernel
theorem dX8_round_8 : decode cX8_round 8 = .ok (.iload_n 3, 1) := by decide +kernel
theorem dX8_round_9 : decode cX8_round 9 = .ok (.iload_n 2, 1) := by decide +kernel
theorem dX8_round_10 : decode cX8_round 10 = .ok (.if_icmp .ge 21, 3) := by decide +kernel
theorem dX8_round_13 : decode cX8_round 13 = .ok (.aload_n 0, 1) := by decide +kernel
theorem dX8_round_14 : decode cX8_round 14 = .ok (.getfield 36, 3) := by decide +kernel
theorem dX8_round_17 : decode cX8_round 17 = .ok (.iload_n 3, 1) := by decide +kernel
theorem dX8_round_18 : decode cX8_round 18 = .ok (.aload_n 0, 1) := by decide +kernel
theorem dX8_round_19 : decode cX8_round 19 = .ok (.iload_n 1, 1) := by decide +kernel
theorem dX8_round_20 : decode cX8_round 20 = .ok (.iload_n 3, 1) := by decide +kernel
theorem dX8_round_21 : decode cX8_round 21 = .ok (.invokevirtual 199, 3) := by decide +kernel
theorem dX8_round_24 : decode cX8_round 24 = .ok (.iastore, 1) := by decide +kernel
theorem dX8_round_25 : decode cX8_round 25 = .ok (.iinc 3 1, 3) := by decide +kernel
theorem dX8_round_28 : decode cX8_round 28 = .ok (.goto (-20), 3) := by decide +kernel
theorem dX8_round_31 : decode cX8_round 31 = .ok (.iconst 0, 1) := by decide +kernel
theorem dX8_round_32 : decode cX8_round 32 = .ok (.istore_n 3, 1) := by decide +kernel
theorem dX8_round_33 : decode cX8_round 33 = .ok (.iconst 0, 1) := by decide +kernel
theorem dX8_round_34 : decode cX8_round 34 = .ok (.istore 4, 2) := by decide +kernel
theorem dX8_round_36 : decode cX8_round 36 = .ok (.iload 4, 2) := by decide +kernel
theorem dX8_round_38 : decode cX8_round 38 = .ok (.iload_n 2, 1) := by decide +kernel
theorem dX8_round_39 : decode cX8_round 39 = .ok (.if_icmp .ge 98, 3) := by decide +kernel
theorem dX8_round_42 : decode cX8_round 42 = .ok (.aload_n 0, 1) := by decide +kernel
theorem dX8_round_43 : decode cX8_round 43 = .ok (.getfield 36, 3) := by decide +kernel
theorem dX8_round_46 : decode cX8_round 46 = .ok (.iload 4, 2) := by decide +kernel
theorem dX8_round_48 : decode cX8_round 48 = .ok (.iaload, 1) := by decide +kernel
theorem dX8_round_49 : decode cX8_round 49 = .ok (.istore 5, 2) := by decide +kernel
theorem dX8_round_51 : decode cX8_round 51 = .ok (.aload_n 0, 1) := by decide +kernel
theorem dX8_round_52 : decode cX8_round 52 = .ok (.iload 5, 2) := by decide +kernel
theorem dX8_round_54 : decode cX8_round 54 = .ok (.iload_n 1, 1) := by decide +kernel
theorem dX8_round_55 : decode cX8_round 55 = .ok (.invokevirtual 184, 3) := by decide +kernel
theorem dX8_round_58 : decode cX8_round 58 = .ok (.aload_n 0, 1) := by decide +kernel
theorem dX8_round_59 : decode cX8_round 59 = .ok (.iload 5, 2) := by decide +kernel
theorem dX8_round_61 : decode cX8_round 61 = .ok (.iload_n 1, 1) := by decide +kernel
theorem dX8_round_62 : decode cX8_round 62 = .ok (.invokevirtual 181, 3) := by decide +kernel
theorem dX8_round_65 : decode cX8_round 65 = .ok (.isub, 1) := by decide +kernel
theorem dX8_round_66 : decode cX8_round 66 = .ok (.istore 6, 2) := by decide +kernel
theorem dX8_round_68 : decode cX8_round 68 = .ok (.aload_n 0, 1) := by decide +kernel
theorem dX8_round_69 : decode cX8_round 69 = .ok (.iload 5, 2) := by decide +kernel
theorem dX8_round_71 : decode cX8_round 71 = .ok (.invokevirtual 202, 3) := by decide +kernel
theorem dX8_round_74 : decode cX8_round 74 = .ok (.iload 6, 2) := by decide +kernel
theorem dX8_round_76 : decode cX8_round 76 = .ok (.aload_n 0, 1) := by decide +kernel
theorem dX8_round_77 : decode cX8_round 77 = .ok (.iload_n 1, 1) := by decide +kernel
theorem dX8_round_78 : decode cX8_round 78 = .ok (.iconst 2, 1) := by decide +kernel
theorem dX8_round_79 : decode cX8_round 79 = .ok (.invokevirtual 169, 3) := by decide +kernel
theorem dX8_round_82 : decode cX8_round 82 = .ok (.invokestatic 205, 3) := by decide +kernel
theorem dX8_round_85 : decode cX8_round 85 = .ok (.invokestatic 205, 3) := by decide +kernel
theorem dX8_round_88 : decode cX8_round 88 = .ok (.istore 7, 2) := by decide +kernel
theorem dX8_round_90 : decode cX8_round 90 = .ok (.aload_n 0, 1) := by decide +kernel
theorem dX8_round_91 : decode cX8_round 91 = .ok (.getfield 9, 3) := by decide +kernel
theorem dX8_round_94 : decode cX8_round 94 = .ok (.sipush 776, 3) := by decide +kernel
theorem dX8_round_97 : decode cX8_round 97 = .ok (.bipush 16, 2) := by decide +kernel
theorem dX8_round_99 : decode cX8_round 99 = .ok (.iload 5, 2) := by decide +kernel
theorem dX8_round_101 : decode cX8_round 101 = .ok (.imul, 1) := by decide +kernel
theorem dX8_round_102 : decode cX8_round 102 = .ok (.iadd, 1) := by decide +kernel
theorem dX8_round_103 : decode cX8_round 103 = .ok (.iload_n 1, 1) := by decide +kernel
theorem dX8_round_104 : decode cX8_round 104 = .ok (.iadd, 1) := by decide +kernel
theorem dX8_round_105 : decode cX8_round 105 = .ok (.dup2, 1) := by decide +kernel
theorem dX8_round_106 : decode cX8_round 106 = .ok (.iaload, 1) := by decide +kernel
theorem dX8_round_107 : decode cX8_round 107 = .ok (.iload 7, 2) := by decide +kernel
theorem dX8_round_109 : decode cX8_round 109 = .ok (.iadd, 1) := by decide +kernel
theorem dX8_round_110 : decode cX8_round 110 = .ok (.iastore, 1) := by decide +kernel
theorem dX8_round_111 : decode cX8_round 111 = .ok (.aload_n 0, 1) := by decide +kernel
theorem dX8_round_112 : decode cX8_round 112 = .ok (.iload_n 1, 1) := by decide +kernel
theorem dX8_round_113 : decode cX8_round 113 = .ok (.iconst 2, 1) := by decide +kernel
theorem dX8_round_114 : decode cX8_round 114 = .ok (.aload_n 0, 1) := by decide +kernel
theorem dX8_round_115 : decode cX8_round 115 = .ok (.iload_n 1, 1) := by decide +kernel
theorem dX8_round_116 : decode cX8_round 116 = .ok (.iconst 2, 1) := by decide +kernel
theorem dX8_round_117 : decode cX8_round 117 = .ok (.invokevirtual 169, 3) := by decide +kernel
theorem dX8_round_120 : decode cX8_round 120 = .ok (.iload 7, 2) := by decide +kernel
theorem dX8_round_122 : decode cX8_round 122 = .ok (.isub, 1) := by decide +kernel
theorem dX8_round_123 : decode cX8_round 123 = .ok (.invokevirtual 166, 3) := by decide +kernel
theorem dX8_round_126 : decode cX8_round 126 = .ok (.iload_n 3, 1) := by decide +kernel
theorem dX8_round_127 : decode cX8_round 127 = .ok (.iload 7, 2) := by decide +kernel
theorem dX8_round_129 : decode cX8_round 129 = .ok (.iadd, 1) := by decide +kernel
theorem dX8_round_130 : decode cX8_round 130 = .ok (.istore_n 3, 1) := by decide +kernel
theorem dX8_round_131 : decode cX8_round 131 = .ok (.iinc 4 1, 3) := by decide +kernel
theorem dX8_round_134 : decode cX8_round 134 = .ok (.goto (-98), 3) := by decide +kernel
theorem dX8_round_137 : decode cX8_round 137 = .ok (.iload_n 3, 1) := by decide +kernel
theorem dX8_round_138 : decode cX8_round 138 = .ok (.ireturn, 1) := by decide +kernel
theorem dX8_serve_0 : decode cX8_serve 0 = .ok (.aload_n 0, 1) := by decide +kernel
theorem dX8_serve_1 : decode cX8_serve 1 = .ok (.aload_n 0, 1) := by decide +kernel
theorem dX8_serve_2 : decode cX8_serve 2 = .ok (.iload_n 1, 1) := by decide +kernel
theorem dX8_serve_3 : decode cX8_serve 3 = .ok (.invokevirtual 172, 3) := by decide +kernel
theorem dX8_serve_6 : decode cX8_serve 6 = .ok (.ifCond .eq 7, 3) := by decide +kernel
theorem dX8_serve_9 : decode cX8_serve 9 = .ok (.iconst 0, 1) := by decide +kernel
theorem dX8_serve_10 : decode cX8_serve 10 = .ok (.goto 4, 3) := by decide +kernel
theorem dX8_serve_13 : decode cX8_serve 13 = .ok (.iconst 1, 1) := by decide +kernel
theorem dX8_serve_14 : decode cX8_serve 14 = .ok (.putfield 42, 3) := by decide +kernel
theorem dX8_serve_17 : decode cX8_serve 17 = .ok (.aload_n 0, 1) := by decide +kernel
theorem dX8_serve_18 : decode cX8_serve 18 = .ok (.getfield 42, 3) := by decide +kernel
theorem dX8_serve_21 : decode cX8_serve 21 = .ok (.ifCond .eq 5, 3) := by decide +kernel
theorem dX8_serve_24 : decode cX8_serve 24 = .ok (.iconst 0, 1) := by decide +kernel
theorem dX8_serve_25 : decode cX8_serve 25 = .ok (.ireturn, 1) := by decide +kernel
theorem dX8_serve_26 : decode cX8_serve 26 = .ok (.aload_n 0, 1) := by decide +kernel
theorem dX8_serve_27 : decode cX8_serve 27 = .ok (.invokevirtual 63, 3) := by decide +kernel
theorem dX8_serve_30 : decode cX8_serve 30 = .ok (.iconst 0, 1) := by decide +kernel
theorem dX8_serve_31 : decode cX8_serve 31 = .ok (.istore_n 2, 1) := by decide +kernel
theorem dX8_serve_32 : decode cX8_serve 32 = .ok (.aload_n 0, 1) := by decide +kernel
theorem dX8_serve_33 : decode cX8_serve 33 = .ok (.iload_n 1, 1) := by decide +kernel
theorem dX8_serve_34 : decode cX8_serve 34 = .ok (.iconst 2, 1) := by decide +kernel
theorem dX8_serve_35 : decode cX8_serve 35 = .ok (.invokevirtual 169, 3) := by decide +kernel
theorem dX8_serve_38 : decode cX8_serve 38 = .ok (.ifCond .le 22, 3) := by decide +kernel
theorem dX8_serve_41 : decode cX8_serve 41 = .ok (.aload_n 0, 1) := by decide +kernel
theorem dX8_serve_42 : decode cX8_serve 42 = .ok (.iload_n 1, 1) := by decide +kernel
theorem dX8_serve_43 : decode cX8_serve 43 = .ok (.invokevirtual 175, 3) := by decide +kernel
theorem dX8_serve_46 : decode cX8_serve 46 = .ok (.ifCond .le 14, 3) := by decide +kernel
theorem dX8_serve_49 : decode cX8_serve 49 = .ok (.iload_n 2, 1) := by decide +kernel
theorem dX8_serve_50 : decode cX8_serve 50 = .ok (.aload_n 0, 1) := by decide +kernel
theorem dX8_serve_51 : decode cX8_serve 51 = .ok (.iload_n 1, 1) := by decide +kernel
theorem dX8_serve_52 : decode cX8_serve 52 = .ok (.invokevirtual 208, 3) := by decide +kernel
theorem dX8_serve_55 : decode cX8_serve 55 = .ok (.iadd, 1) := by decide +kernel
theorem dX8_serve_56 : decode cX8_serve 56 = .ok (.istore_n 2, 1) := by decide +kernel
theorem dX8_serve_57 : decode cX8_serve 57 = .ok (.goto (-25), 3) := by decide +kernel
theorem dX8_serve_60 : decode cX8_serve 60 = .ok (.iload_n 2, 1) := by decide +kernel
theorem dX8_serve_61 : decode cX8_serve 61 = .ok (.ireturn, 1) := by decide +kernel
theorem dX8_giveBack_0 : decode cX8_giveBack 0 = .ok (.aload_n 0, 1) := by decide +kernel
theorem dX8_giveBack_1 : decode cX8_giveBack 1 = .ok (.iconst 0, 1) := by decide +kernel
theorem dX8_giveBack_2 : decode cX8_giveBack 2 = .ok (.putfield 42, 3) := by decide +kernel
theorem dX8_giveBack_5 : decode cX8_giveBack 5 = .ok (.aload_n 0, 1) := by decide +kernel
theorem dX8_giveBack_6 : decode cX8_giveBack 6 = .ok (.iload_n 1, 1) := by decide +kernel
theorem dX8_giveBack_7 : decode cX8_giveBack 7 = .ok (.invokevirtual 196, 3) := by decide +kernel
theorem dX8_giveBack_10 : decode cX8_giveBack 10 = .ok (.ifCond .eq 11, 3) := by decide +kernel
theorem dX8_giveBack_13 : decode cX8_giveBack 13 = .ok (.aload_n 0, 1) := by decide +kernel
theorem dX8_giveBack_14 : decode cX8_giveBack 14 = .ok (.iload_n 2, 1) := by decide +kernel
theorem dX8_giveBack_15 : decode cX8_giveBack 15 = .ok (.invokevirtual 172, 3) := by decide +kernel
theorem dX8_giveBack_18 : decode cX8_giveBack 18 = .ok (.ifCond .ne 9, 3) := by decide +kernel
theorem dX8_giveBack_21 : decode cX8_giveBack 21 = .ok (.aload_n 0, 1) := by decide +kernel
theorem dX8_giveBack_22 : decode cX8_giveBack 22 = .ok (.iconst 1, 1) := by decide +kernel
theorem dX8_giveBack_23 : decode cX8_giveBack 23 = .ok (.invokevirtual 48, 3) := by decide +kernel
theorem dX8_giveBack_26 : decode cX8_giveBack 26 = .ok (.ireturn, 1) := by decide +kernel
theorem dX8_giveBack_27 : decode cX8_giveBack 27 = .ok (.iload_n 3, 1) := by decide +kernel
theorem dX8_giveBack_28 : decode cX8_giveBack 28 = .ok (.iconst 1, 1) := by decide +kernel
theorem dX8_giveBack_29 : decode cX8_giveBack 29 = .ok (.sipush 3333, 3) := by decide +kernel
theorem dX8_giveBack_32 : decode cX8_giveBack 32 = .ok (.invokestatic 55, 3) := by decide +kernel
theorem dX8_giveBack_35 : decode cX8_giveBack 35 = .ok (.ifCond .eq 13, 3) := by decide +kernel
theorem dX8_giveBack_38 : decode cX8_giveBack 38 = .ok (.iload_n 3, 1) := by decide +kernel
theorem dX8_giveBack_39 : decode cX8_giveBack 39 = .ok (.aload_n 0, 1) := by decide +kernel
theorem dX8_giveBack_40 : decode cX8_giveBack 40 = .ok (.iload_n 1, 1) := by decide +kernel
theorem dX8_giveBack_41 : decode cX8_giveBack 41 = .ok (.iload_n 2, 1) := by decide +kernel
theorem dX8_giveBack_42 : decode cX8_giveBack 42 = .ok (.invokevirtual 181, 3) := by decide +kernel
theorem dX8_giveBack_45 : decode cX8_giveBack 45 = .ok (.if_icmp .le 9, 3) := by decide +kernel
theorem dX8_giveBack_48 : decode cX8_giveBack 48 = .ok (.aload_n 0, 1) := by decide +kernel
theorem dX8_giveBack_49 : decode cX8_giveBack 49 = .ok (.iconst 2, 1) := by decide +kernel
theorem dX8_giveBack_50 : decode cX8_giveBack 50 = .ok (.invokevirtual 48, 3) := by decide +kernel
theorem dX8_giveBack_53 : decode cX8_giveBack 53 = .ok (.ireturn, 1) := by decide +kernel
theorem dX8_giveBack_54 : decode cX8_giveBack 54 = .ok (.aload_n 0, 1) := by decide +kernel
theorem dX8_giveBack_55 : decode cX8_giveBack 55 = .ok (.invokevirtual 63, 3) := by decide +kernel
theorem dX8_giveBack_58 : decode cX8_giveBack 58 = .ok (.aload_n 0, 1) := by decide +kernel
theorem dX8_giveBack_59 : decode cX8_giveBack 59 = .ok (.iload_n 1, 1) := by decide +kernel
theorem dX8_giveBack_60 : decode cX8_giveBack 60 = .ok (.iload_n 2, 1) := by decide +kernel
theorem dX8_giveBack_61 : decode cX8_giveBack 61 = .ok (.invokevirtual 181, 3) := by decide +kernel
theorem dX8_giveBack_64 : decode cX8_giveBack 64 = .ok (.iload_n 3, 1) := by decide +kernel
theorem dX8_giveBack_65 : decode cX8_giveBack 65 = .ok (.isub, 1) := by decide +kernel
theorem dX8_giveBack_66 : decode cX8_giveBack 66 = .ok (.istore 4, 2) := by decide +kernel
theorem dX8_giveBack_68 : decode cX8_giveBack 68 = .ok (.aload_n 0, 1) := by decide +kernel
theorem dX8_giveBack_69 : decode cX8_giveBack 69 = .ok (.getfield 9, 3) := by decide +kernel
theorem dX8_giveBack_72 : decode cX8_giveBack 72 = .ok (.sipush 776, 3) := by decide +kernel
theorem dX8_giveBack_75 : decode cX8_giveBack 75 = .ok (.bipush 16, 2) := by decide +kernel
theorem dX8_giveBack_77 : decode cX8_giveBack 77 = .ok (.iload_n 1, 1) := by decide +kernel
theorem dX8_giveBack_78 : decode cX8_giveBack 78 = .ok (.imul, 1) := by decide +kernel
theorem dX8_giveBack_79 : decode cX8_giveBack 79 = .ok (.iadd, 1) := by decide +kernel
theorem dX8_giveBack_80 : decode cX8_giveBack 80 = .ok (.iload_n 2, 1) := by decide +kernel
theorem dX8_giveBack_81 : decode cX8_giveBack 81 = .ok (.iadd, 1) := by decide +kernel
theorem dX8_giveBack_82 : decode cX8_giveBack 82 = .ok (.iload 4, 2) := by decide +kernel
theorem dX8_giveBack_84 : decode cX8_giveBack 84 = .ok (.iastore, 1) := by decide +kernel
theorem dX8_giveBack_85 : decode cX8_giveBack 85 = .ok (.aload_n 0, 1) := by decide +kernel
theorem dX8_giveBack_86 : decode cX8_giveBack 86 = .ok (.getfield 9, 3) := by decide +kernel
theorem dX8_giveBack_89 : decode cX8_giveBack 89 = .ok (.sipush 904, 3) := by decide +kernel
theorem dX8_giveBack_92 : decode cX8_giveBack 92 = .ok (.bipush 16, 2) := by decide +kernel
theorem dX8_giveBack_94 : decode cX8_giveBack 94 = .ok (.iload_n 1, 1) := by decide +kernel
theorem dX8_giveBack_95 : decode cX8_giveBack 95 = .ok (.imul, 1) := by decide +kernel
theorem dX8_giveBack_96 : decode cX8_giveBack 96 = .ok (.iadd, 1) := by decide +kernel
theorem dX8_giveBack_97 : decode cX8_giveBack 97 = .ok (.iload_n 2, 1) := by decide +kernel
theorem dX8_giveBack_98 : decode cX8_giveBack 98 = .ok (.iadd, 1) := by decide +kernel
theorem dX8_giveBack_99 : decode cX8_giveBack 99 = .ok (.aload_n 0, 1) := by decide +kernel
theorem dX8_giveBack_100 : decode cX8_giveBack 100 = .ok (.iload_n 1, 1) := by decide +kernel
theorem dX8_giveBack_101 : decode cX8_giveBack 101 = .ok (.iload_n 2, 1) := by decide +kernel
theorem dX8_giveBack_102 : decode cX8_giveBack 102 = .ok (.invokevirtual 184, 3) := by decide +kernel
theorem dX8_giveBack_105 : decode cX8_giveBack 105 = .ok (.iload 4, 2) := by decide +kernel
theorem dX8_giveBack_107 : decode cX8_giveBack 107 = .ok (.invokestatic 205, 3) := by decide +kernel
theorem dX8_giveBack_110 : decode cX8_giveBack 110 = .ok (.iastore, 1) := by decide +kernel
theorem dX8_giveBack_111 : decode cX8_giveBack 111 = .ok (.aload_n 0, 1) := by decide +kernel
theorem dX8_giveBack_112 : decode cX8_giveBack 112 = .ok (.iload_n 2, 1) := by decide +kernel
theorem dX8_giveBack_113 : decode cX8_giveBack 113 = .ok (.iconst 2, 1) := by decide +kernel
theorem dX8_giveBack_114 : decode cX8_giveBack 114 = .ok (.aload_n 0, 1) := by decide +kernel
theorem dX8_giveBack_115 : decode cX8_giveBack 115 = .ok (.iload_n 2, 1) := by decide +kernel
theorem dX8_giveBack_116 : decode cX8_giveBack 116 = .ok (.iconst 2, 1) := by decide +kernel
theorem dX8_giveBack_117 : decode cX8_giveBack 117 = .ok (.invokevirtual 169, 3) := by decide +kernel
theorem dX8_giveBack_120 : decode cX8_giveBack 120 = .ok (.iload_n 3, 1) := by decide +kernel
theorem dX8_giveBack_121 : decode cX8_giveBack 121 = .ok (.iadd, 1) := by decide +kernel
theorem dX8_giveBack_122 : decode cX8_giveBack 122 = .ok (.invokevirtual 166, 3) := by decide +kernel
theorem dX8_giveBack_125 : decode cX8_giveBack 125 = .ok (.iload 4, 2) := by decide +kernel
theorem dX8_giveBack_127 : decode cX8_giveBack 127 = .ok (.ireturn, 1) := by decide +kernel
theorem dX8_holds_0 : decode cX8_holds 0 = .ok (.aload_n 0, 1) := by decide +kernel
theorem dX8_holds_1 : decode cX8_holds 1 = .ok (.iconst 0, 1) := by decide +kernel
theorem dX8_holds_2 : decode cX8_holds 2 = .ok (.putfield 42, 3) := by decide +kernel
theorem dX8_holds_5 : decode cX8_holds 5 = .ok (.aload_n 0, 1) := by decide +kernel
theorem dX8_holds_6 : decode cX8_holds 6 = .ok (.iload_n 1, 1) := by decide +kernel
theorem dX8_holds_7 : decode cX8_holds 7 = .ok (.invokevirtual 196, 3) := by decide +kernel
theorem dX8_holds_10 : decode cX8_holds 10 = .ok (.ifCond .eq 11, 3) := by decide +kernel
theorem dX8_holds_13 : decode cX8_holds 13 = .ok (.aload_n 0, 1) := by decide +kernel
theorem dX8_holds_14 : decode cX8_holds 14 = .ok (.iload_n 2, 1) := by decide +kernel
theorem dX8_holds_15 : decode cX8_holds 15 = .ok (.invokevirtual 172, 3) := by decide +kernel
theorem dX8_holds_18 : decode cX8_holds 18 = .ok (.ifCond .ne 9, 3) := by decide +kernel
theorem dX8_holds_21 : decode cX8_holds 21 = .ok (.aload_n 0, 1) := by decide +kernel
theorem dX8_holds_22 : decode cX8_holds 22 = .ok (.iconst 1, 1) := by decide +kernel
theorem dX8_holds_23 : decode cX8_holds 23 = .ok (.invokevirtual 48, 3) := by decide +kernel
theorem dX8_holds_26 : decode cX8_holds 26 = .ok (.ireturn, 1) := by decide +kernel
theorem dX8_holds_27 : decode cX8_holds 27 = .ok (.iload_n 3, 1) := by decide +kernel
theorem dX8_holds_28 : decode cX8_holds 28 = .ok (.ifCond .ne 12, 3) := by decide +kernel
theorem dX8_holds_31 : decode cX8_holds 31 = .ok (.aload_n 0, 1) := by decide +kernel
theorem dX8_holds_32 : decode cX8_holds 32 = .ok (.iload_n 1, 1) := by decide +kernel
theorem dX8_holds_33 : decode cX8_holds 33 = .ok (.iload_n 2, 1) := by decide +kernel
theorem dX8_holds_34 : decode cX8_holds 34 = .ok (.invokevirtual 181, 3) := by decide +kernel
theorem dX8_holds_37 : decode cX8_holds 37 = .ok (.goto 36, 3) := by decide +kernel
theorem dX8_holds_40 : decode cX8_holds 40 = .ok (.iload_n 3, 1) := by decide +kernel
theorem dX8_holds_41 : decode cX8_holds 41 = .ok (.iconst 1, 1) := by decide +kernel
theorem dX8_holds_42 : decode cX8_holds 42 = .ok (.if_icmp .ne 12, 3) := by decide +kernel
theorem dX8_holds_45 : decode cX8_holds 45 = .ok (.aload_n 0, 1) := by decide +kernel
theorem dX8_holds_46 : decode cX8_holds 46 = .ok (.iload_n 1, 1) := by decide +kernel
theorem dX8_holds_47 : decode cX8_holds 47 = .ok (.iload_n 2, 1) := by decide +kernel
theorem dX8_holds_48 : decode cX8_holds 48 = .ok (.invokevirtual 184, 3) := by decide +kernel
theorem dX8_holds_51 : decode cX8_holds 51 = .ok (.goto 22, 3) := by decide +kernel
theorem dX8_holds_54 : decode cX8_holds 54 = .ok (.iload_n 3, 1) := by decide +kernel
theorem dX8_holds_55 : decode cX8_holds 55 = .ok (.iconst 2, 1) := by decide +kernel
theorem dX8_holds_56 : decode cX8_holds 56 = .ok (.if_icmp .ne 12, 3) := by decide +kernel
theorem dX8_holds_59 : decode cX8_holds 59 = .ok (.aload_n 0, 1) := by decide +kernel
theorem dX8_holds_60 : decode cX8_holds 60 = .ok (.iload_n 1, 1) := by decide +kernel
theorem dX8_holds_61 : decode cX8_holds 61 = .ok (.iload_n 2, 1) := by decide +kernel
theorem dX8_holds_62 : decode cX8_holds 62 = .ok (.invokevirtual 193, 3) := by decide +kernel
theorem dX8_holds_65 : decode cX8_holds 65 = .ok (.goto 8, 3) := by decide +kernel
theorem dX8_holds_68 : decode cX8_holds 68 = .ok (.aload_n 0, 1) := by decide +kernel
theorem dX8_holds_69 : decode cX8_holds 69 = .ok (.iconst 2, 1) := by decide +kernel
theorem dX8_holds_70 : decode cX8_holds 70 = .ok (.invokevirtual 48, 3) := by decide +kernel
theorem dX8_holds_73 : decode cX8_holds 73 = .ok (.ireturn, 1) := by decide +kernel
theorem dX8_listed_0 : decode cX8_listed 0 = .ok (.aload_n 0, 1) := by decide +kernel
theorem dX8_listed_1 : decode cX8_listed 1 = .ok (.iconst 0, 1) := by decide +kernel
theorem dX8_listed_2 : decode cX8_listed 2 = .ok (.putfield 42, 3) := by decide +kernel
theorem dX8_listed_5 : decode cX8_listed 5 = .ok (.aload_n 0, 1) := by decide +kernel
theorem dX8_listed_6 : decode cX8_listed 6 = .ok (.iload_n 1, 1) := by decide +kernel
theorem dX8_listed_7 : decode cX8_listed 7 = .ok (.invokevirtual 172, 3) := by decide +kernel
theorem dX8_listed_10 : decode cX8_listed 10 = .ok (.ifCond .ne 9, 3) := by decide +kernel
theorem dX8_listed_13 : decode cX8_listed 13 = .ok (.aload_n 0, 1) := by decide +kernel
theorem dX8_listed_14 : decode cX8_listed 14 = .ok (.iconst 1, 1) := by decide +kernel
theorem dX8_listed_15 : decode cX8_listed 15 = .ok (.invokevirtual 48, 3) := by decide +kernel
theorem dX8_listed_18 : decode cX8_listed 18 = .ok (.ireturn, 1) := by decide +kernel
theorem dX8_listed_19 : decode cX8_listed 19 = .ok (.aload_n 0, 1) := by decide +kernel
theorem dX8_listed_20 : decode cX8_listed 20 = .ok (.iload_n 1, 1) := by decide +kernel
theorem dX8_listed_21 : decode cX8_listed 21 = .ok (.iload_n 2, 1) := by decide +kernel
theorem dX8_listed_22 : decode cX8_listed 22 = .ok (.invokevirtual 199, 3) := by decide +kernel
theorem dX8_listed_25 : decode cX8_listed 25 = .ok (.istore_n 3, 1) := by decide +kernel
theorem dX8_listed_26 : decode cX8_listed 26 = .ok (.iload_n 3, 1) := by decide +kernel
theorem dX8_listed_27 : decode cX8_listed 27 = .ok (.iconst (-1), 1) := by decide +kernel
theorem dX8_listed_28 : decode cX8_listed 28 = .ok (.if_icmp .ne 11, 3) := by decide +kernel
theorem dX8_listed_31 : decode cX8_listed 31 = .ok (.aload_n 0, 1) := by decide +kernel
theorem dX8_listed_32 : decode cX8_listed 32 = .ok (.iconst 2, 1) := by decide +kernel
theorem dX8_listed_33 : decode cX8_listed 33 = .ok (.invokevirtual 48, 3) := by decide +kernel
theorem dX8_listed_36 : decode cX8_listed 36 = .ok (.goto 4, 3) := by decide +kernel
theorem dX8_listed_39 : decode cX8_listed 39 = .ok (.iload_n 3, 1) := by decide +kernel
theorem dX8_listed_40 : decode cX8_listed 40 = .ok (.ireturn, 1) := by decide +kernel
theorem dX8_findWays_0 : decode cX8_findWays 0 = .ok (.iconst 0, 1) := by decide +kernel
theorem dX8_findWays_1 : decode cX8_findWays 1 = .ok (.istore_n 2, 1) := by decide +kernel
theorem dX8_findWays_2 : decode cX8_findWays 2 = .ok (.iload_n 2, 1) := by decide +kernel
theorem dX8_findWays_3 : decode cX8_findWays 3 = .ok (.aload_n 0, 1) := by decide +kernel
theorem dX8_findWays_4 : decode cX8_findWays 4 = .ok (.getfield 9, 3) := by decide +kernel
theorem dX8_findWays_7 : decode cX8_findWays 7 = .ok (.iconst 0, 1) := by decide +kernel
theorem dX8_findWays_8 : decode cX8_findWays 8 = .ok (.iaload, 1) := by decide +kernel
theorem dX8_findWays_9 : decode cX8_findWays 9 = .ok (.if_icmp .ge 70, 3) := by decide +kernel
theorem dX8_findWays_12 : decode cX8_findWays 12 = .ok (.aload_n 0, 1) := by decide +kernel
theorem dX8_findWays_13 : decode cX8_findWays 13 = .ok (.getfield 39, 3) := by decide +kernel
theorem dX8_findWays_16 : decode cX8_findWays 16 = .ok (.iload_n 2, 1) := by decide +kernel
theorem dX8_findWays_17 : decode cX8_findWays 17 = .ok (.iload_n 2, 1) := by decide +kernel
theorem dX8_findWays_18 : decode cX8_findWays 18 = .ok (.iload_n 1, 1) := by decide +kernel
theorem dX8_findWays_19 : decode cX8_findWays 19 = .ok (.if_icmp .ne 7, 3) := by decide +kernel
theorem dX8_findWays_22 : decode cX8_findWays 22 = .ok (.iconst 1, 1) := by decide +kernel
theorem dX8_findWays_23 : decode cX8_findWays 23 = .ok (.goto 4, 3) := by decide +kernel
theorem dX8_findWays_26 : decode cX8_findWays 26 = .ok (.iconst 0, 1) := by decide +kernel
theorem dX8_findWays_27 : decode cX8_findWays 27 = .ok (.iastore, 1) := by decide +kernel
theorem dX8_findWays_28 : decode cX8_findWays 28 = .ok (.iconst 0, 1) := by decide +kernel
theorem dX8_findWays_29 : decode cX8_findWays 29 = .ok (.istore_n 3, 1) := by decide +kernel
theorem dX8_findWays_30 : decode cX8_findWays 30 = .ok (.iload_n 3, 1) := by decide +kernel
theorem dX8_findWays_31 : decode cX8_findWays 31 = .ok (.aload_n 0, 1) := by decide +kernel
theorem dX8_findWays_32 : decode cX8_findWays 32 = .ok (.iload_n 2, 1) := by decide +kernel
theorem dX8_findWays_33 : decode cX8_findWays 33 = .ok (.iconst 2, 1) := by decide +kernel
theorem dX8_findWays_34 : decode cX8_findWays 34 = .ok (.invokevirtual 102, 3) := by decide +kernel
theorem dX8_findWays_37 : decode cX8_findWays 37 = .ok (.if_icmp .ge 36, 3) := by decide +kernel
theorem dX8_findWays_40 : decode cX8_findWays 40 = .ok (.iload_n 2, 1) := by decide +kernel
theorem dX8_findWays_41 : decode cX8_findWays 41 = .ok (.iload_n 1, 1) := by decide +kernel
theorem dX8_findWays_42 : decode cX8_findWays 42 = .ok (.if_icmp .eq 31, 3) := by decide +kernel
theorem dX8_findWays_45 : decode cX8_findWays 45 = .ok (.aload_n 0, 1) := by decide +kernel
theorem dX8_findWays_46 : decode cX8_findWays 46 = .ok (.getfield 39, 3) := by decide +kernel
theorem dX8_findWays_49 : decode cX8_findWays 49 = .ok (.iload_n 2, 1) := by decide +kernel
theorem dX8_findWays_50 : decode cX8_findWays 50 = .ok (.dup2, 1) := by decide +kernel
theorem dX8_findWays_51 : decode cX8_findWays 51 = .ok (.iaload, 1) := by decide +kernel
theorem dX8_findWays_52 : decode cX8_findWays 52 = .ok (.aload_n 0, 1) := by decide +kernel
theorem dX8_findWays_53 : decode cX8_findWays 53 = .ok (.getfield 39, 3) := by decide +kernel
theorem dX8_findWays_56 : decode cX8_findWays 56 = .ok (.aload_n 0, 1) := by decide +kernel
theorem dX8_findWays_57 : decode cX8_findWays 57 = .ok (.iload_n 2, 1) := by decide +kernel
theorem dX8_findWays_58 : decode cX8_findWays 58 = .ok (.iconst 5, 1) := by decide +kernel
theorem dX8_findWays_59 : decode cX8_findWays 59 = .ok (.iload_n 3, 1) := by decide +kernel
theorem dX8_findWays_60 : decode cX8_findWays 60 = .ok (.iadd, 1) := by decide +kernel
theorem dX8_findWays_61 : decode cX8_findWays 61 = .ok (.invokevirtual 102, 3) := by decide +kernel
theorem dX8_findWays_64 : decode cX8_findWays 64 = .ok (.iaload, 1) := by decide +kernel
theorem dX8_findWays_65 : decode cX8_findWays 65 = .ok (.iadd, 1) := by decide +kernel
theorem dX8_findWays_66 : decode cX8_findWays 66 = .ok (.iastore, 1) := by decide +kernel
theorem dX8_findWays_67 : decode cX8_findWays 67 = .ok (.iinc 3 1, 3) := by decide +kernel
theorem dX8_findWays_70 : decode cX8_findWays 70 = .ok (.goto (-40), 3) := by decide +kernel
theorem dX8_findWays_73 : decode cX8_findWays 73 = .ok (.iinc 2 1, 3) := by decide +kernel
theorem dX8_findWays_76 : decode cX8_findWays 76 = .ok (.goto (-74), 3) := by decide +kernel
theorem dX8_findWays_79 : decode cX8_findWays 79 = .ok (.return_, 1) := by decide +kernel
theorem dX8_recalling_0 : decode cX8_recalling 0 = .ok (.aload_n 0, 1) := by decide +kernel
theorem dX8_recalling_1 : decode cX8_recalling 1 = .ok (.iload_n 1, 1) := by decide +kernel
theorem dX8_recalling_2 : decode cX8_recalling 2 = .ok (.invokevirtual 211, 3) := by decide +kernel
theorem dX8_recalling_5 : decode cX8_recalling 5 = .ok (.iconst 0, 1) := by decide +kernel
theorem dX8_recalling_6 : decode cX8_recalling 6 = .ok (.istore_n 2, 1) := by decide +kernel
theorem dX8_recalling_7 : decode cX8_recalling 7 = .ok (.iconst 0, 1) := by decide +kernel
theorem dX8_recalling_8 : decode cX8_recalling 8 = .ok (.istore_n 3, 1) := by decide +kernel
theorem dX8_recalling_9 : decode cX8_recalling 9 = .ok (.iload_n 3, 1) := by decide +kernel
theorem dX8_recalling_10 : decode cX8_recalling 10 = .ok (.aload_n 0, 1) := by decide +kernel
theorem dX8_recalling_11 : decode cX8_recalling 11 = .ok (.getfield 9, 3) := by decide +kernel
theorem dX8_recalling_14 : decode cX8_recalling 14 = .ok (.iconst 2, 1) := by decide +kernel
theorem dX8_recalling_15 : decode cX8_recalling 15 = .ok (.iaload, 1) := by decide +kernel
theorem dX8_recalling_16 : decode cX8_recalling 16 = .ok (.if_icmp .ge 33, 3) := by decide +kernel
theorem dX8_recalling_19 : decode cX8_recalling 19 = .ok (.iload_n 2, 1) := by decide +kernel
theorem dX8_recalling_20 : decode cX8_recalling 20 = .ok (.aload_n 0, 1) := by decide +kernel
theorem dX8_recalling_21 : decode cX8_recalling 21 = .ok (.getfield 39, 3) := by decide +kernel
theorem dX8_recalling_24 : decode cX8_recalling 24 = .ok (.aload_n 0, 1) := by decide +kernel
theorem dX8_recalling_25 : decode cX8_recalling 25 = .ok (.iload_n 3, 1) := by decide +kernel
theorem dX8_recalling_26 : decode cX8_recalling 26 = .ok (.iconst 0, 1) := by decide +kernel
theorem dX8_recalling_27 : decode cX8_recalling 27 = .ok (.invokevirtual 169, 3) := by decide +kernel
theorem dX8_recalling_30 : decode cX8_recalling 30 = .ok (.iaload, 1) := by decide +kernel
theorem dX8_recalling_31 : decode cX8_recalling 31 = .ok (.ifCond .le 9, 3) := by decide +kernel
theorem dX8_recalling_34 : decode cX8_recalling 34 = .ok (.iconst 1, 1) := by decide +kernel
theorem dX8_recalling_35 : decode cX8_recalling 35 = .ok (.iload_n 3, 1) := by decide +kernel
theorem dX8_recalling_36 : decode cX8_recalling 36 = .ok (.ishl, 1) := by decide +kernel
theorem dX8_recalling_37 : decode cX8_recalling 37 = .ok (.goto 4, 3) := by decide +kernel
theorem dX8_recalling_40 : decode cX8_recalling 40 = .ok (.iconst 0, 1) := by decide +kernel
theorem dX8_recalling_41 : decode cX8_recalling 41 = .ok (.ior, 1) := by decide +kernel
theorem dX8_recalling_42 : decode cX8_recalling 42 = .ok (.istore_n 2, 1) := by decide +kernel
theorem dX8_recalling_43 : decode cX8_recalling 43 = .ok (.iinc 3 1, 3) := by decide +kernel
theorem dX8_recalling_46 : decode cX8_recalling 46 = .ok (.goto (-37), 3) := by decide +kernel
theorem dX8_recalling_49 : decode cX8_recalling 49 = .ok (.iload_n 2, 1) := by decide +kernel
theorem dX8_recalling_50 : decode cX8_recalling 50 = .ok (.ireturn, 1) := by decide +kernel
theorem dX8_recalled_0 : decode cX8_recalled 0 = .ok (.aload_n 0, 1) := by decide +kernel
theorem dX8_recalled_1 : decode cX8_recalled 1 = .ok (.aload_n 0, 1) := by decide +kernel
theorem dX8_recalled_2 : decode cX8_recalled 2 = .ok (.iload_n 1, 1) := by decide +kernel
theorem dX8_recalled_3 : decode cX8_recalled 3 = .ok (.invokevirtual 98, 3) := by decide +kernel
theorem dX8_recalled_6 : decode cX8_recalled 6 = .ok (.ifCond .eq 7, 3) := by decide +kernel
theorem dX8_recalled_9 : decode cX8_recalled 9 = .ok (.iconst 0, 1) := by decide +kernel
theorem dX8_recalled_10 : decode cX8_recalled 10 = .ok (.goto 4, 3) := by decide +kernel
theorem dX8_recalled_13 : decode cX8_recalled 13 = .ok (.iconst 1, 1) := by decide +kernel
theorem dX8_recalled_14 : decode cX8_recalled 14 = .ok (.putfield 42, 3) := by decide +kernel
theorem dX8_recalled_17 : decode cX8_recalled 17 = .ok (.aload_n 0, 1) := by decide +kernel
theorem dX8_recalled_18 : decode cX8_recalled 18 = .ok (.getfield 42, 3) := by decide +kernel
theorem dX8_recalled_21 : decode cX8_recalled 21 = .ok (.ifCond .ne 11, 3) := by decide +kernel
theorem dX8_recalled_24 : decode cX8_recalled 24 = .ok (.aload_n 0, 1) := by decide +kernel
theorem dX8_recalled_25 : decode cX8_recalled 25 = .ok (.iload_n 1, 1) := by decide +kernel
theorem dX8_recalled_26 : decode cX8_recalled 26 = .ok (.invokevirtual 214, 3) := by decide +kernel
theorem dX8_recalled_29 : decode cX8_recalled 29 = .ok (.goto 4, 3) := by decide +kernel
theorem dX8_recalled_32 : decode cX8_recalled 32 = .ok (.iconst 0, 1) := by decide +kernel
theorem dX8_recalled_33 : decode cX8_recalled 33 = .ok (.ireturn, 1) := by decide +kernel
theorem dX8_recalledAgain_0 : decode cX8_recalledAgain 0 = .ok (.aload_n 0, 1) := by decide +kernel
theorem dX8_recalledAgain_1 : decode cX8_recalledAgain 1 = .ok (.aload_n 0, 1) := by decide +kernel
theorem dX8_recalledAgain_2 : decode cX8_recalledAgain 2 = .ok (.iload_n 1, 1) := by decide +kernel
theorem dX8_recalledAgain_3 : decode cX8_recalledAgain 3 = .ok (.invokevirtual 98, 3) := by decide +kernel
theorem dX8_recalledAgain_6 : decode cX8_recalledAgain 6 = .ok (.ifCond .eq 7, 3) := by decide +kernel
theorem dX8_recalledAgain_9 : decode cX8_recalledAgain 9 = .ok (.iconst 0, 1) := by decide +kernel
theorem dX8_recalledAgain_10 : decode cX8_recalledAgain 10 = .ok (.goto 4, 3) := by decide +kernel
theorem dX8_recalledAgain_13 : decode cX8_recalledAgain 13 = .ok (.iconst 1, 1) := by decide +kernel
theorem dX8_recalledAgain_14 : decode cX8_recalledAgain 14 = .ok (.putfield 42, 3) := by decide +kernel
theorem dX8_recalledAgain_17 : decode cX8_recalledAgain 17 = .ok (.aload_n 0, 1) := by decide +kernel
theorem dX8_recalledAgain_18 : decode cX8_recalledAgain 18 = .ok (.getfield 42, 3) := by decide +kernel
theorem dX8_recalledAgain_21 : decode cX8_recalledAgain 21 = .ok (.ifCond .ne 11, 3) := by decide +kernel
theorem dX8_recalledAgain_24 : decode cX8_recalledAgain 24 = .ok (.aload_n 0, 1) := by decide +kernel
theorem dX8_recalledAgain_25 : decode cX8_recalledAgain 25 = .ok (.iload_n 1, 1) := by decide +kernel
theorem dX8_recalledAgain_26 : decode cX8_recalledAgain 26 = .ok (.invokevirtual 214, 3) := by decide +kernel
theorem dX8_recalledAgain_29 : decode cX8_recalledAgain 29 = .ok (.goto 4, 3) := by decide +kernel
theorem dX8_recalledAgain_32 : decode cX8_recalledAgain 32 = .ok (.iconst 0, 1) := by decide +kernel
theorem dX8_recalledAgain_33 : decode cX8_recalledAgain 33 = .ok (.ireturn, 1) := by decide +kernel
theorem dX8_bottlesOf_0 : decode cX8_bottlesOf 0 = .ok (.aload_n 0, 1) := by decide +kernel
theorem dX8_bottlesOf_1 : decode cX8_bottlesOf 1 = .ok (.aload_n 0, 1) := by decide +kernel
theorem dX8_bottlesOf_2 : decode cX8_bottlesOf 2 = .ok (.iload_n 1, 1) := by decide +kernel
theorem dX8_bottlesOf_3 : decode cX8_bottlesOf 3 = .ok (.invokevirtual 98, 3) := by decide +kernel
theorem dX8_bottlesOf_6 : decode cX8_bottlesOf 6 = .ok (.ifCond .eq 20, 3) := by decide +kernel
theorem dX8_bottlesOf_9 : decode cX8_bottlesOf 9 = .ok (.iload_n 2, 1) := by decide +kernel
theorem dX8_bottlesOf_10 : decode cX8_bottlesOf 10 = .ok (.iconst (-1), 1) := by decide +kernel
theorem dX8_bottlesOf_11 : decode cX8_bottlesOf 11 = .ok (.if_icmp .eq 11, 3) := by decide +kernel
theorem dX8_bottlesOf_14 : decode cX8_bottlesOf 14 = .ok (.aload_n 0, 1) := by decide +kernel
theorem dX8_bottlesOf_15 : decode cX8_bottlesOf 15 = .ok (.iload_n 2, 1) := by decide +kernel
theorem dX8_bottlesOf_16 : decode cX8_bottlesOf 16 = .ok (.invokevirtual 196, 3) := by decide +kernel
theorem dX8_bottlesOf_19 : decode cX8_bottlesOf 19 = .ok (.ifCond .eq 7, 3) := by decide +kernel
theorem dX8_bottlesOf_22 : decode cX8_bottlesOf 22 = .ok (.iconst 0, 1) := by decide +kernel
theorem dX8_bottlesOf_23 : decode cX8_bottlesOf 23 = .ok (.goto 4, 3) := by decide +kernel
theorem dX8_bottlesOf_26 : decode cX8_bottlesOf 26 = .ok (.iconst 1, 1) := by decide +kernel
theorem dX8_bottlesOf_27 : decode cX8_bottlesOf 27 = .ok (.putfield 42, 3) := by decide +kernel
theorem dX8_bottlesOf_30 : decode cX8_bottlesOf 30 = .ok (.aload_n 0, 1) := by decide +kernel
theorem dX8_bottlesOf_31 : decode cX8_bottlesOf 31 = .ok (.getfield 42, 3) := by decide +kernel
theorem dX8_bottlesOf_34 : decode cX8_bottlesOf 34 = .ok (.ifCond .eq 5, 3) := by decide +kernel
theorem dX8_bottlesOf_37 : decode cX8_bottlesOf 37 = .ok (.iconst 0, 1) := by decide +kernel
theorem dX8_bottlesOf_38 : decode cX8_bottlesOf 38 = .ok (.ireturn, 1) := by decide +kernel
theorem dX8_bottlesOf_39 : decode cX8_bottlesOf 39 = .ok (.aload_n 0, 1) := by decide +kernel
theorem dX8_bottlesOf_40 : decode cX8_bottlesOf 40 = .ok (.iload_n 1, 1) := by decide +kernel
theorem dX8_bottlesOf_41 : decode cX8_bottlesOf 41 = .ok (.invokevirtual 214, 3) := by decide +kernel
theorem dX8_bottlesOf_44 : decode cX8_bottlesOf 44 = .ok (.istore_n 3, 1) := by decide +kernel
theorem dX8_bottlesOf_45 : decode cX8_bottlesOf 45 = .ok (.iconst 0, 1) := by decide +kernel
theorem dX8_bottlesOf_46 : decode cX8_bottlesOf 46 = .ok (.istore 4, 2) := by decide +kernel
theorem dX8_bottlesOf_48 : decode cX8_bottlesOf 48 = .ok (.iconst 0, 1) := by decide +kernel
theorem dX8_bottlesOf_49 : decode cX8_bottlesOf 49 = .ok (.istore 5, 2) := by decide +kernel
theorem dX8_bottlesOf_51 : decode cX8_bottlesOf 51 = .ok (.iload 5, 2) := by decide +kernel
theorem dX8_bottlesOf_53 : decode cX8_bottlesOf 53 = .ok (.aload_n 0, 1) := by decide +kernel
theorem dX8_bottlesOf_54 : decode cX8_bottlesOf 54 = .ok (.getfield 9, 3) := by decide +kernel
theorem dX8_bottlesOf_57 : decode cX8_bottlesOf 57 = .ok (.iconst 2, 1) := by decide +kernel
theorem dX8_bottlesOf_58 : decode cX8_bottlesOf 58 = .ok (.iaload, 1) := by decide +kernel
theorem dX8_bottlesOf_59 : decode cX8_bottlesOf 59 = .ok (.if_icmp .ge 62, 3) := by decide +kernel
theorem dX8_bottlesOf_62 : decode cX8_bottlesOf 62 = .ok (.iload_n 3, 1) := by decide +kernel
theorem dX8_bottlesOf_63 : decode cX8_bottlesOf 63 = .ok (.iload 5, 2) := by decide +kernel
theorem dX8_bottlesOf_65 : decode cX8_bottlesOf 65 = .ok (.ishr, 1) := by decide +kernel
theorem dX8_bottlesOf_66 : decode cX8_bottlesOf 66 = .ok (.iconst 1, 1) := by decide +kernel
theorem dX8_bottlesOf_67 : decode cX8_bottlesOf 67 = .ok (.iand, 1) := by decide +kernel
theorem dX8_bottlesOf_68 : decode cX8_bottlesOf 68 = .ok (.iconst 1, 1) := by decide +kernel
theorem dX8_bottlesOf_69 : decode cX8_bottlesOf 69 = .ok (.if_icmp .ne 7, 3) := by decide +kernel
theorem dX8_bottlesOf_72 : decode cX8_bottlesOf 72 = .ok (.iconst 1, 1) := by decide +kernel
theorem dX8_bottlesOf_73 : decode cX8_bottlesOf 73 = .ok (.goto 4, 3) := by decide +kernel
theorem dX8_bottlesOf_76 : decode cX8_bottlesOf 76 = .ok (.iconst 0, 1) := by decide +kernel
theorem dX8_bottlesOf_77 : decode cX8_bottlesOf 77 = .ok (.istore 6, 2) := by decide +kernel
theorem dX8_bottlesOf_79 : decode cX8_bottlesOf 79 = .ok (.iload 4, 2) := by decide +kernel
theorem dX8_bottlesOf_81 : decode cX8_bottlesOf 81 = .ok (.iload 6, 2) := by decide +kernel
theorem dX8_bottlesOf_83 : decode cX8_bottlesOf 83 = .ok (.ifCond .ne 7, 3) := by decide +kernel
theorem dX8_bottlesOf_86 : decode cX8_bottlesOf 86 = .ok (.iconst 0, 1) := by decide +kernel
theorem dX8_bottlesOf_87 : decode cX8_bottlesOf 87 = .ok (.goto 25, 3) := by decide +kernel
theorem dX8_bottlesOf_90 : decode cX8_bottlesOf 90 = .ok (.iload_n 2, 1) := by decide +kernel
theorem dX8_bottlesOf_91 : decode cX8_bottlesOf 91 = .ok (.iconst (-1), 1) := by decide +kernel
theorem dX8_bottlesOf_92 : decode cX8_bottlesOf 92 = .ok (.if_icmp .ne 13, 3) := by decide +kernel
theorem dX8_bottlesOf_95 : decode cX8_bottlesOf 95 = .ok (.aload_n 0, 1) := by decide +kernel
theorem dX8_bottlesOf_96 : decode cX8_bottlesOf 96 = .ok (.iload 5, 2) := by decide +kernel
theorem dX8_bottlesOf_98 : decode cX8_bottlesOf 98 = .ok (.iconst 2, 1) := by decide +kernel
theorem dX8_bottlesOf_99 : decode cX8_bottlesOf 99 = .ok (.invokevirtual 169, 3) := by decide +kernel
theorem dX8_bottlesOf_102 : decode cX8_bottlesOf 102 = .ok (.goto 10, 3) := by decide +kernel
theorem dX8_bottlesOf_105 : decode cX8_bottlesOf 105 = .ok (.aload_n 0, 1) := by decide +kernel
theorem dX8_bottlesOf_106 : decode cX8_bottlesOf 106 = .ok (.iload_n 2, 1) := by decide +kernel
theorem dX8_bottlesOf_107 : decode cX8_bottlesOf 107 = .ok (.iload 5, 2) := by decide +kernel
theorem dX8_bottlesOf_109 : decode cX8_bottlesOf 109 = .ok (.invokevirtual 181, 3) := by decide +kernel
theorem dX8_bottlesOf_112 : decode cX8_bottlesOf 112 = .ok (.iadd, 1) := by decide +kernel
theorem dX8_bottlesOf_113 : decode cX8_bottlesOf 113 = .ok (.istore 4, 2) := by decide +kernel
theorem dX8_bottlesOf_115 : decode cX8_bottlesOf 115 = .ok (.iinc 5 1, 3) := by decide +kernel
theorem dX8_bottlesOf_118 : decode cX8_bottlesOf 118 = .ok (.goto (-67), 3) := by decide +kernel
theorem dX8_bottlesOf_121 : decode cX8_bottlesOf 121 = .ok (.iload 4, 2) := by decide +kernel
theorem dX8_bottlesOf_123 : decode cX8_bottlesOf 123 = .ok (.ireturn, 1) := by decide +kernel
theorem dX8_ways_0 : decode cX8_ways 0 = .ok (.aload_n 0, 1) := by decide +kernel
theorem dX8_ways_1 : decode cX8_ways 1 = .ok (.aload_n 0, 1) := by decide +kernel
theorem dX8_ways_2 : decode cX8_ways 2 = .ok (.iload_n 1, 1) := by decide +kernel
theorem dX8_ways_3 : decode cX8_ways 3 = .ok (.invokevirtual 98, 3) := by decide +kernel
theorem dX8_ways_6 : decode cX8_ways 6 = .ok (.ifCond .eq 15, 3) := by decide +kernel
theorem dX8_ways_9 : decode cX8_ways 9 = .ok (.aload_n 0, 1) := by decide +kernel
theorem dX8_ways_10 : decode cX8_ways 10 = .ok (.iload_n 2, 1) := by decide +kernel
theorem dX8_ways_11 : decode cX8_ways 11 = .ok (.invokevirtual 98, 3) := by decide +kernel
theorem dX8_ways_14 : decode cX8_ways 14 = .ok (.ifCond .eq 7, 3) := by decide +kernel
theorem dX8_ways_17 : decode cX8_ways 17 = .ok (.iconst 0, 1) := by decide +kernel
theorem dX8_ways_18 : decode cX8_ways 18 = .ok (.goto 4, 3) := by decide +kernel
theorem dX8_ways_21 : decode cX8_ways 21 = .ok (.iconst 1, 1) := by decide +kernel
theorem dX8_ways_22 : decode cX8_ways 22 = .ok (.putfield 42, 3) := by decide +kernel
theorem dX8_ways_25 : decode cX8_ways 25 = .ok (.aload_n 0, 1) := by decide +kernel
theorem dX8_ways_26 : decode cX8_ways 26 = .ok (.getfield 42, 3) := by decide +kernel
theorem dX8_ways_29 : decode cX8_ways 29 = .ok (.ifCond .eq 5, 3) := by decide +kernel
theorem dX8_ways_32 : decode cX8_ways 32 = .ok (.iconst 0, 1) := by decide +kernel
theorem dX8_ways_33 : decode cX8_ways 33 = .ok (.ireturn, 1) := by decide +kernel
theorem dX8_ways_34 : decode cX8_ways 34 = .ok (.aload_n 0, 1) := by decide +kernel
theorem dX8_ways_35 : decode cX8_ways 35 = .ok (.iload_n 1, 1) := by decide +kernel
theorem dX8_ways_36 : decode cX8_ways 36 = .ok (.invokevirtual 211, 3) := by decide +kernel
theorem dX8_ways_39 : decode cX8_ways 39 = .ok (.aload_n 0, 1) := by decide +kernel
theorem dX8_ways_40 : decode cX8_ways 40 = .ok (.getfield 39, 3) := by decide +kernel
theorem dX8_ways_43 : decode cX8_ways 43 = .ok (.iload_n 2, 1) := by decide +kernel
theorem dX8_ways_44 : decode cX8_ways 44 = .ok (.iaload, 1) := by decide +kernel
theorem dX8_ways_45 : decode cX8_ways 45 = .ok (.ireturn, 1) := by decide +kernel
theorem dX8_sumOfLots_0 : decode cX8_sumOfLots 0 = .ok (.iconst 0, 1) := by decide +kernel
theorem dX8_sumOfLots_1 : decode cX8_sumOfLots 1 = .ok (.istore_n 1, 1) := by decide +kernel
theorem dX8_sumOfLots_2 : decode cX8_sumOfLots 2 = .ok (.iconst 0, 1) := by decide +kernel
theorem dX8_sumOfLots_3 : decode cX8_sumOfLots 3 = .ok (.istore_n 2, 1) := by decide +kernel
theorem dX8_sumOfLots_4 : decode cX8_sumOfLots 4 = .ok (.iload_n 2, 1) := by decide +kernel
theorem dX8_sumOfLots_5 : decode cX8_sumOfLots 5 = .ok (.aload_n 0, 1) := by decide +kernel
theorem dX8_sumOfLots_6 : decode cX8_sumOfLots 6 = .ok (.getfield 9, 3) := by decide +kernel
theorem dX8_sumOfLots_9 : decode cX8_sumOfLots 9 = .ok (.iconst 0, 1) := by decide +kernel
theorem dX8_sumOfLots_10 : decode cX8_sumOfLots 10 = .ok (.iaload, 1) := by decide +kernel
theorem dX8_sumOfLots_11 : decode cX8_sumOfLots 11 = .ok (.if_icmp .ge 18, 3) := by decide +kernel
theorem dX8_sumOfLots_14 : decode cX8_sumOfLots 14 = .ok (.iload_n 1, 1) := by decide +kernel
theorem dX8_sumOfLots_15 : decode cX8_sumOfLots 15 = .ok (.aload_n 0, 1) := by decide +kernel
theorem dX8_sumOfLots_16 : decode cX8_sumOfLots 16 = .ok (.iload_n 2, 1) := by decide +kernel
theorem dX8_sumOfLots_17 : decode cX8_sumOfLots 17 = .ok (.iconst 1, 1) := by decide +kernel
theorem dX8_sumOfLots_18 : decode cX8_sumOfLots 18 = .ok (.invokevirtual 102, 3) := by decide +kernel
theorem dX8_sumOfLots_21 : decode cX8_sumOfLots 21 = .ok (.iadd, 1) := by decide +kernel
theorem dX8_sumOfLots_22 : decode cX8_sumOfLots 22 = .ok (.istore_n 1, 1) := by decide +kernel
theorem dX8_sumOfLots_23 : decode cX8_sumOfLots 23 = .ok (.iinc 2 1, 3) := by decide +kernel
theorem dX8_sumOfLots_26 : decode cX8_sumOfLots 26 = .ok (.goto (-22), 3) := by decide +kernel
theorem dX8_sumOfLots_29 : decode cX8_sumOfLots 29 = .ok (.iload_n 1, 1) := by decide +kernel
theorem dX8_sumOfLots_30 : decode cX8_sumOfLots 30 = .ok (.ireturn, 1) := by decide +kernel
theorem dX8_sumOfHarvests_0 : decode cX8_sumOfHarvests 0 = .ok (.iconst 0, 1) := by decide +kernel
theorem dX8_sumOfHarvests_1 : decode cX8_sumOfHarvests 1 = .ok (.istore_n 1, 1) := by decide +kernel
theorem dX8_sumOfHarvests_2 : decode cX8_sumOfHarvests 2 = .ok (.iconst 0, 1) := by decide +kernel
theorem dX8_sumOfHarvests_3 : decode cX8_sumOfHarvests 3 = .ok (.istore_n 2, 1) := by decide +kernel
theorem dX8_sumOfHarvests_4 : decode cX8_sumOfHarvests 4 = .ok (.iload_n 2, 1) := by decide +kernel
theorem dX8_sumOfHarvests_5 : decode cX8_sumOfHarvests 5 = .ok (.aload_n 0, 1) := by decide +kernel
theorem dX8_sumOfHarvests_6 : decode cX8_sumOfHarvests 6 = .ok (.getfield 9, 3) := by decide +kernel
theorem dX8_sumOfHarvests_9 : decode cX8_sumOfHarvests 9 = .ok (.iconst 1, 1) := by decide +kernel
theorem dX8_sumOfHarvests_10 : decode cX8_sumOfHarvests 10 = .ok (.iaload, 1) := by decide +kernel
theorem dX8_sumOfHarvests_11 : decode cX8_sumOfHarvests 11 = .ok (.if_icmp .ge 18, 3) := by decide +kernel
theorem dX8_sumOfHarvests_14 : decode cX8_sumOfHarvests 14 = .ok (.iload_n 1, 1) := by decide +kernel
theorem dX8_sumOfHarvests_15 : decode cX8_sumOfHarvests 15 = .ok (.aload_n 0, 1) := by decide +kernel
theorem dX8_sumOfHarvests_16 : decode cX8_sumOfHarvests 16 = .ok (.iload_n 2, 1) := by decide +kernel
theorem dX8_sumOfHarvests_17 : decode cX8_sumOfHarvests 17 = .ok (.iconst 3, 1) := by decide +kernel
theorem dX8_sumOfHarvests_18 : decode cX8_sumOfHarvests 18 = .ok (.invokevirtual 144, 3) := by decide +kernel
theorem dX8_sumOfHarvests_21 : decode cX8_sumOfHarvests 21 = .ok (.iadd, 1) := by decide +kernel
theorem dX8_sumOfHarvests_22 : decode cX8_sumOfHarvests 22 = .ok (.istore_n 1, 1) := by decide +kernel
theorem dX8_sumOfHarvests_23 : decode cX8_sumOfHarvests 23 = .ok (.iinc 2 1, 3) := by decide +kernel
theorem dX8_sumOfHarvests_26 : decode cX8_sumOfHarvests 26 = .ok (.goto (-22), 3) := by decide +kernel
theorem dX8_sumOfHarvests_29 : decode cX8_sumOfHarvests 29 = .ok (.iload_n 1, 1) := by decide +kernel
theorem dX8_sumOfHarvests_30 : decode cX8_sumOfHarvests 30 = .ok (.ireturn, 1) := by decide +kernel
theorem dX8_sumOfBottles_0 : decode cX8_sumOfBottles 0 = .ok (.iconst 0, 1) := by decide +kernel
theorem dX8_sumOfBottles_1 : decode cX8_sumOfBottles 1 = .ok (.istore_n 2, 1) := by decide +kernel
theorem dX8_sumOfBottles_2 : decode cX8_sumOfBottles 2 = .ok (.iconst 0, 1) := by decide +kernel
theorem dX8_sumOfBottles_3 : decode cX8_sumOfBottles 3 = .ok (.istore_n 3, 1) := by decide +kernel
theorem dX8_sumOfBottles_4 : decode cX8_sumOfBottles 4 = .ok (.iload_n 3, 1) := by decide +kernel
theorem dX8_sumOfBottles_5 : decode cX8_sumOfBottles 5 = .ok (.aload_n 0, 1) := by decide +kernel
theorem dX8_sumOfBottles_6 : decode cX8_sumOfBottles 6 = .ok (.getfield 9, 3) := by decide +kernel
theorem dX8_sumOfBottles_9 : decode cX8_sumOfBottles 9 = .ok (.iconst 2, 1) := by decide +kernel
theorem dX8_sumOfBottles_10 : decode cX8_sumOfBottles 10 = .ok (.iaload, 1) := by decide +kernel
theorem dX8_sumOfBottles_11 : decode cX8_sumOfBottles 11 = .ok (.if_icmp .ge 18, 3) := by decide +kernel
theorem dX8_sumOfBottles_14 : decode cX8_sumOfBottles 14 = .ok (.iload_n 2, 1) := by decide +kernel
theorem dX8_sumOfBottles_15 : decode cX8_sumOfBottles 15 = .ok (.aload_n 0, 1) := by decide +kernel
theorem dX8_sumOfBottles_16 : decode cX8_sumOfBottles 16 = .ok (.iload_n 3, 1) := by decide +kernel
theorem dX8_sumOfBottles_17 : decode cX8_sumOfBottles 17 = .ok (.iload_n 1, 1) := by decide +kernel
theorem dX8_sumOfBottles_18 : decode cX8_sumOfBottles 18 = .ok (.invokevirtual 169, 3) := by decide +kernel
theorem dX8_sumOfBottles_21 : decode cX8_sumOfBottles 21 = .ok (.iadd, 1) := by decide +kernel
theorem dX8_sumOfBottles_22 : decode cX8_sumOfBottles 22 = .ok (.istore_n 2, 1) := by decide +kernel
theorem dX8_sumOfBottles_23 : decode cX8_sumOfBottles 23 = .ok (.iinc 3 1, 3) := by decide +kernel
theorem dX8_sumOfBottles_26 : decode cX8_sumOfBottles 26 = .ok (.goto (-22), 3) := by decide +kernel
theorem dX8_sumOfBottles_29 : decode cX8_sumOfBottles 29 = .ok (.iload_n 2, 1) := by decide +kernel
theorem dX8_sumOfBottles_30 : decode cX8_sumOfBottles 30 = .ok (.ireturn, 1) := by decide +kernel
theorem dX8_sumHeld_0 : decode cX8_sumHeld 0 = .ok (.iconst 0, 1) := by decide +kernel
theorem dX8_sumHeld_1 : decode cX8_sumHeld 1 = .ok (.istore_n 1, 1) := by decide +kernel
theorem dX8_sumHeld_2 : decode cX8_sumHeld 2 = .ok (.sipush 776, 3) := by decide +kernel
theorem dX8_sumHeld_5 : decode cX8_sumHeld 5 = .ok (.istore_n 2, 1) := by decide +kernel
theorem dX8_sumHeld_6 : decode cX8_sumHeld 6 = .ok (.iload_n 2, 1) := by decide +kernel
theorem dX8_sumHeld_7 : decode cX8_sumHeld 7 = .ok (.sipush 904, 3) := by decide +kernel
theorem dX8_sumHeld_10 : decode cX8_sumHeld 10 = .ok (.if_icmp .ge 18, 3) := by decide +kernel
theorem dX8_sumHeld_13 : decode cX8_sumHeld 13 = .ok (.iload_n 1, 1) := by decide +kernel
theorem dX8_sumHeld_14 : decode cX8_sumHeld 14 = .ok (.aload_n 0, 1) := by decide +kernel
theorem dX8_sumHeld_15 : decode cX8_sumHeld 15 = .ok (.getfield 9, 3) := by decide +kernel
theorem dX8_sumHeld_18 : decode cX8_sumHeld 18 = .ok (.iload_n 2, 1) := by decide +kernel
theorem dX8_sumHeld_19 : decode cX8_sumHeld 19 = .ok (.iaload, 1) := by decide +kernel
theorem dX8_sumHeld_20 : decode cX8_sumHeld 20 = .ok (.iadd, 1) := by decide +kernel
theorem dX8_sumHeld_21 : decode cX8_sumHeld 21 = .ok (.istore_n 1, 1) := by decide +kernel
theorem dX8_sumHeld_22 : decode cX8_sumHeld 22 = .ok (.iinc 2 1, 3) := by decide +kernel
theorem dX8_sumHeld_25 : decode cX8_sumHeld 25 = .ok (.goto (-19), 3) := by decide +kernel
theorem dX8_sumHeld_28 : decode cX8_sumHeld 28 = .ok (.iload_n 1, 1) := by decide +kernel
theorem dX8_sumHeld_29 : decode cX8_sumHeld 29 = .ok (.ireturn, 1) := by decide +kernel
theorem dX8_account_0 : decode cX8_account 0 = .ok (.aload_n 0, 1) := by decide +kernel
theorem dX8_account_1 : decode cX8_account 1 = .ok (.iconst 0, 1) := by decide +kernel
theorem dX8_account_2 : decode cX8_account 2 = .ok (.putfield 42, 3) := by decide +kernel
theorem dX8_account_5 : decode cX8_account 5 = .ok (.iload_n 1, 1) := by decide +kernel
theorem dX8_account_6 : decode cX8_account 6 = .ok (.tableswitch 118 0 11 #[62, 67, 72, 80, 87, 93, 98, 98, 98, 98, 108, 113], 62) := by decide +kernel
theorem dX8_account_68 : decode cX8_account 68 = .ok (.aload_n 0, 1) := by decide +kernel
theorem dX8_account_69 : decode cX8_account 69 = .ok (.invokevirtual 217, 3) := by decide +kernel
theorem dX8_account_72 : decode cX8_account 72 = .ok (.ireturn, 1) := by decide +kernel
theorem dX8_account_73 : decode cX8_account 73 = .ok (.aload_n 0, 1) := by decide +kernel
theorem dX8_account_74 : decode cX8_account 74 = .ok (.invokevirtual 220, 3) := by decide +kernel
theorem dX8_account_77 : decode cX8_account 77 = .ok (.ireturn, 1) := by decide +kernel
theorem dX8_account_78 : decode cX8_account 78 = .ok (.iconst 3, 1) := by decide +kernel
theorem dX8_account_79 : decode cX8_account 79 = .ok (.aload_n 0, 1) := by decide +kernel
theorem dX8_account_80 : decode cX8_account 80 = .ok (.iconst 1, 1) := by decide +kernel
theorem dX8_account_81 : decode cX8_account 81 = .ok (.invokevirtual 223, 3) := by decide +kernel
theorem dX8_account_84 : decode cX8_account 84 = .ok (.imul, 1) := by decide +kernel
theorem dX8_account_85 : decode cX8_account 85 = .ok (.ireturn, 1) := by decide +kernel
theorem dX8_account_86 : decode cX8_account 86 = .ok (.aload_n 0, 1) := by decide +kernel
theorem dX8_account_87 : decode cX8_account 87 = .ok (.getfield 9, 3) := by decide +kernel
theorem dX8_account_90 : decode cX8_account 90 = .ok (.iconst 4, 1) := by decide +kernel
theorem dX8_account_91 : decode cX8_account 91 = .ok (.iaload, 1) := by decide +kernel
theorem dX8_account_92 : decode cX8_account 92 = .ok (.ireturn, 1) := by decide +kernel
theorem dX8_account_93 : decode cX8_account 93 = .ok (.aload_n 0, 1) := by decide +kernel
theorem dX8_account_94 : decode cX8_account 94 = .ok (.iconst 2, 1) := by decide +kernel
theorem dX8_account_95 : decode cX8_account 95 = .ok (.invokevirtual 223, 3) := by decide +kernel
theorem dX8_account_98 : decode cX8_account 98 = .ok (.ireturn, 1) := by decide +kernel
theorem dX8_account_99 : decode cX8_account 99 = .ok (.aload_n 0, 1) := by decide +kernel
theorem dX8_account_100 : decode cX8_account 100 = .ok (.invokevirtual 226, 3) := by decide +kernel
theorem dX8_account_103 : decode cX8_account 103 = .ok (.ireturn, 1) := by decide +kernel
theorem dX8_account_104 : decode cX8_account 104 = .ok (.aload_n 0, 1) := by decide +kernel
theorem dX8_account_105 : decode cX8_account 105 = .ok (.getfield 9, 3) := by decide +kernel
theorem dX8_account_108 : decode cX8_account 108 = .ok (.iload_n 1, 1) := by decide +kernel
theorem dX8_account_109 : decode cX8_account 109 = .ok (.bipush 6, 2) := by decide +kernel
theorem dX8_account_111 : decode cX8_account 111 = .ok (.isub, 1) := by decide +kernel
theorem dX8_account_112 : decode cX8_account 112 = .ok (.iaload, 1) := by decide +kernel
theorem dX8_account_113 : decode cX8_account 113 = .ok (.ireturn, 1) := by decide +kernel
theorem dX8_account_114 : decode cX8_account 114 = .ok (.aload_n 0, 1) := by decide +kernel
theorem dX8_account_115 : decode cX8_account 115 = .ok (.getfield 52, 3) := by decide +kernel
theorem dX8_account_118 : decode cX8_account 118 = .ok (.ireturn, 1) := by decide +kernel
theorem dX8_account_119 : decode cX8_account 119 = .ok (.aload_n 0, 1) := by decide +kernel
theorem dX8_account_120 : decode cX8_account 120 = .ok (.getfield 115, 3) := by decide +kernel
theorem dX8_account_123 : decode cX8_account 123 = .ok (.ireturn, 1) := by decide +kernel
theorem dX8_account_124 : decode cX8_account 124 = .ok (.aload_n 0, 1) := by decide +kernel
theorem dX8_account_125 : decode cX8_account 125 = .ok (.iconst 1, 1) := by decide +kernel
theorem dX8_account_126 : decode cX8_account 126 = .ok (.invokevirtual 48, 3) := by decide +kernel
theorem dX8_account_129 : decode cX8_account 129 = .ok (.ireturn, 1) := by decide +kernel
theorem dX8_feed_0 : decode cX8_feed 0 = .ok (.aload_n 0, 1) := by decide +kernel
theorem dX8_feed_1 : decode cX8_feed 1 = .ok (.iconst 0, 1) := by decide +kernel
theorem dX8_feed_2 : decode cX8_feed 2 = .ok (.putfield 42, 3) := by decide +kernel
theorem dX8_feed_5 : decode cX8_feed 5 = .ok (.aload_n 0, 1) := by decide +kernel
theorem dX8_feed_6 : decode cX8_feed 6 = .ok (.getfield 115, 3) := by decide +kernel
theorem dX8_feed_9 : decode cX8_feed 9 = .ok (.bipush 40, 2) := by decide +kernel
theorem dX8_feed_11 : decode cX8_feed 11 = .ok (.if_icmp .ne 9, 3) := by decide +kernel
theorem dX8_feed_14 : decode cX8_feed 14 = .ok (.aload_n 0, 1) := by decide +kernel
theorem dX8_feed_15 : decode cX8_feed 15 = .ok (.iconst 1, 1) := by decide +kernel
theorem dX8_feed_16 : decode cX8_feed 16 = .ok (.invokevirtual 48, 3) := by decide +kernel
theorem dX8_feed_19 : decode cX8_feed 19 = .ok (.ireturn, 1) := by decide +kernel
theorem dX8_feed_20 : decode cX8_feed 20 = .ok (.aload_n 0, 1) := by decide +kernel
theorem dX8_feed_21 : decode cX8_feed 21 = .ok (.getfield 23, 3) := by decide +kernel
theorem dX8_feed_24 : decode cX8_feed 24 = .ok (.aload_n 0, 1) := by decide +kernel
theorem dX8_feed_25 : decode cX8_feed 25 = .ok (.getfield 115, 3) := by decide +kernel
theorem dX8_feed_28 : decode cX8_feed 28 = .ok (.iload_n 1, 1) := by decide +kernel
theorem dX8_feed_29 : decode cX8_feed 29 = .ok (.castore, 1) := by decide +kernel
theorem dX8_feed_30 : decode cX8_feed 30 = .ok (.aload_n 0, 1) := by decide +kernel
theorem dX8_feed_31 : decode cX8_feed 31 = .ok (.dup, 1) := by decide +kernel
theorem dX8_feed_32 : decode cX8_feed 32 = .ok (.getfield 115, 3) := by decide +kernel
theorem dX8_feed_35 : decode cX8_feed 35 = .ok (.iconst 1, 1) := by decide +kernel
theorem dX8_feed_36 : decode cX8_feed 36 = .ok (.iadd, 1) := by decide +kernel
theorem dX8_feed_37 : decode cX8_feed 37 = .ok (.putfield 115, 3) := by decide +kernel
theorem dX8_feed_40 : decode cX8_feed 40 = .ok (.aload_n 0, 1) := by decide +kernel
theorem dX8_feed_41 : decode cX8_feed 41 = .ok (.getfield 115, 3) := by decide +kernel
theorem dX8_feed_44 : decode cX8_feed 44 = .ok (.ireturn, 1) := by decide +kernel
theorem dX8_errorPosition_0 : decode cX8_errorPosition 0 = .ok (.aload_n 0, 1) := by decide +kernel
theorem dX8_errorPosition_1 : decode cX8_errorPosition 1 = .ok (.aload_n 0, 1) := by decide +kernel
theorem dX8_errorPosition_2 : decode cX8_errorPosition 2 = .ok (.getfield 19, 3) := by decide +kernel
theorem dX8_errorPosition_5 : decode cX8_errorPosition 5 = .ok (.iconst (-1), 1) := by decide +kernel
theorem dX8_errorPosition_6 : decode cX8_errorPosition 6 = .ok (.if_icmp .ne 7, 3) := by decide +kernel
theorem dX8_errorPosition_9 : decode cX8_errorPosition 9 = .ok (.iconst 1, 1) := by decide +kernel
theorem dX8_errorPosition_10 : decode cX8_errorPosition 10 = .ok (.goto 4, 3) := by decide +kernel
theorem dX8_errorPosition_13 : decode cX8_errorPosition 13 = .ok (.iconst 0, 1) := by decide +kernel
theorem dX8_errorPosition_14 : decode cX8_errorPosition 14 = .ok (.putfield 42, 3) := by decide +kernel
theorem dX8_errorPosition_17 : decode cX8_errorPosition 17 = .ok (.aload_n 0, 1) := by decide +kernel
theorem dX8_errorPosition_18 : decode cX8_errorPosition 18 = .ok (.getfield 42, 3) := by decide +kernel
theorem dX8_errorPosition_21 : decode cX8_errorPosition 21 = .ok (.ifCond .ne 10, 3) := by decide +kernel
theorem dX8_errorPosition_24 : decode cX8_errorPosition 24 = .ok (.aload_n 0, 1) := by decide +kernel
theorem dX8_errorPosition_25 : decode cX8_errorPosition 25 = .ok (.getfield 19, 3) := by decide +kernel
theorem dX8_errorPosition_28 : decode cX8_errorPosition 28 = .ok (.goto 4, 3) := by decide +kernel
theorem dX8_errorPosition_31 : decode cX8_errorPosition 31 = .ok (.iconst 0, 1) := by decide +kernel
theorem dX8_errorPosition_32 : decode cX8_errorPosition 32 = .ok (.ireturn, 1) := by decide +kernel
theorem dX8_undo_0 : decode cX8_undo 0 = .ok (.aload_n 0, 1) := by decide +kernel
theorem dX8_undo_1 : decode cX8_undo 1 = .ok (.iconst 0, 1) := by decide +kernel
theorem dX8_undo_2 : decode cX8_undo 2 = .ok (.putfield 42, 3) := by decide +kernel
theorem dX8_undo_5 : decode cX8_undo 5 = .ok (.aload_n 0, 1) := by decide +kernel
theorem dX8_undo_6 : decode cX8_undo 6 = .ok (.getfield 52, 3) := by decide +kernel
theorem dX8_undo_9 : decode cX8_undo 9 = .ok (.ifCond .ne 9, 3) := by decide +kernel
theorem dX8_undo_12 : decode cX8_undo 12 = .ok (.aload_n 0, 1) := by decide +kernel
theorem dX8_undo_13 : decode cX8_undo 13 = .ok (.iconst 1, 1) := by decide +kernel
theorem dX8_undo_14 : decode cX8_undo 14 = .ok (.invokevirtual 48, 3) := by decide +kernel
theorem dX8_undo_17 : decode cX8_undo 17 = .ok (.ireturn, 1) := by decide +kernel
theorem dX8_undo_18 : decode cX8_undo 18 = .ok (.aload_n 0, 1) := by decide +kernel
theorem dX8_undo_19 : decode cX8_undo 19 = .ok (.dup, 1) := by decide +kernel
theorem dX8_undo_20 : decode cX8_undo 20 = .ok (.getfield 52, 3) := by decide +kernel
theorem dX8_undo_23 : decode cX8_undo 23 = .ok (.iconst 1, 1) := by decide +kernel
theorem dX8_undo_24 : decode cX8_undo 24 = .ok (.isub, 1) := by decide +kernel
theorem dX8_undo_25 : decode cX8_undo 25 = .ok (.putfield 52, 3) := by decide +kernel
theorem dX8_undo_28 : decode cX8_undo 28 = .ok (.iconst 0, 1) := by decide +kernel
theorem dX8_undo_29 : decode cX8_undo 29 = .ok (.istore_n 1, 1) := by decide +kernel
theorem dX8_undo_30 : decode cX8_undo 30 = .ok (.iload_n 1, 1) := by decide +kernel
theorem dX8_undo_31 : decode cX8_undo 31 = .ok (.sipush 1032, 3) := by decide +kernel
theorem dX8_undo_34 : decode cX8_undo 34 = .ok (.if_icmp .ge 30, 3) := by decide +kernel
theorem dX8_undo_37 : decode cX8_undo 37 = .ok (.aload_n 0, 1) := by decide +kernel
theorem dX8_undo_38 : decode cX8_undo 38 = .ok (.getfield 9, 3) := by decide +kernel
theorem dX8_undo_41 : decode cX8_undo 41 = .ok (.iload_n 1, 1) := by decide +kernel
theorem dX8_undo_42 : decode cX8_undo 42 = .ok (.aload_n 0, 1) := by decide +kernel
theorem dX8_undo_43 : decode cX8_undo 43 = .ok (.getfield 13, 3) := by decide +kernel
theorem dX8_undo_46 : decode cX8_undo 46 = .ok (.sipush 1032, 3) := by decide +kernel
theorem dX8_undo_49 : decode cX8_undo 49 = .ok (.aload_n 0, 1) := by decide +kernel
theorem dX8_undo_50 : decode cX8_undo 50 = .ok (.getfield 52, 3) := by decide +kernel
theorem dX8_undo_53 : decode cX8_undo 53 = .ok (.imul, 1) := by decide +kernel
theorem dX8_undo_54 : decode cX8_undo 54 = .ok (.iload_n 1, 1) := by decide +kernel
theorem dX8_undo_55 : decode cX8_undo 55 = .ok (.iadd, 1) := by decide +kernel
theorem dX8_undo_56 : decode cX8_undo 56 = .ok (.iaload, 1) := by decide +kernel
theorem dX8_undo_57 : decode cX8_undo 57 = .ok (.iastore, 1) := by decide +kernel
theorem dX8_undo_58 : decode cX8_undo 58 = .ok (.iinc 1 1, 3) := by decide +kernel
theorem dX8_undo_61 : decode cX8_undo 61 = .ok (.goto (-31), 3) := by decide +kernel
theorem dX8_undo_64 : decode cX8_undo 64 = .ok (.aload_n 0, 1) := by decide +kernel
theorem dX8_undo_65 : decode cX8_undo 65 = .ok (.getfield 52, 3) := by decide +kernel
theorem dX8_undo_68 : decode cX8_undo 68 = .ok (.ireturn, 1) := by decide +kernel
theorem dX8_save_0 : decode cX8_save 0 = .ok (.aload_n 0, 1) := by decide +kernel
theorem dX8_save_1 : decode cX8_save 1 = .ok (.iconst 0, 1) := by decide +kernel
theorem dX8_save_2 : decode cX8_save 2 = .ok (.putfield 42, 3) := by decide +kernel
theorem dX8_save_5 : decode cX8_save 5 = .ok (.aload_n 0, 1) := by decide +kernel
theorem dX8_save_6 : decode cX8_save 6 = .ok (.iconst 1, 1) := by decide +kernel
theorem dX8_save_7 : decode cX8_save 7 = .ok (.putfield 229, 3) := by decide +kernel
theorem dX8_save_10 : decode cX8_save 10 = .ok (.iconst 0, 1) := by decide +kernel
theorem dX8_save_11 : decode cX8_save 11 = .ok (.istore_n 1, 1) := by decide +kernel
theorem dX8_save_12 : decode cX8_save 12 = .ok (.iload_n 1, 1) := by decide +kernel
theorem dX8_save_13 : decode cX8_save 13 = .ok (.sipush 1032, 3) := by decide +kernel
theorem dX8_save_16 : decode cX8_save 16 = .ok (.if_icmp .ge 21, 3) := by decide +kernel
theorem dX8_save_19 : decode cX8_save 19 = .ok (.aload_n 0, 1) := by decide +kernel
theorem dX8_save_20 : decode cX8_save 20 = .ok (.getfield 16, 3) := by decide +kernel
theorem dX8_save_23 : decode cX8_save 23 = .ok (.iload_n 1, 1) := by decide +kernel
theorem dX8_save_24 : decode cX8_save 24 = .ok (.aload_n 0, 1) := by decide +kernel
theorem dX8_save_25 : decode cX8_save 25 = .ok (.getfield 9, 3) := by decide +kernel
theorem dX8_save_28 : decode cX8_save 28 = .ok (.iload_n 1, 1) := by decide +kernel
theorem dX8_save_29 : decode cX8_save 29 = .ok (.iaload, 1) := by decide +kernel
theorem dX8_save_30 : decode cX8_save 30 = .ok (.iastore, 1) := by decide +kernel
theorem dX8_save_31 : decode cX8_save 31 = .ok (.iinc 1 1, 3) := by decide +kernel
theorem dX8_save_34 : decode cX8_save 34 = .ok (.goto (-22), 3) := by decide +kernel
theorem dX8_save_37 : decode cX8_save 37 = .ok (.aload_n 0, 1) := by decide +kernel
theorem dX8_save_38 : decode cX8_save 38 = .ok (.getfield 9, 3) := by decide +kernel
theorem dX8_save_41 : decode cX8_save 41 = .ok (.iconst 0, 1) := by decide +kernel
theorem dX8_save_42 : decode cX8_save 42 = .ok (.iaload, 1) := by decide +kernel
theorem dX8_save_43 : decode cX8_save 43 = .ok (.ireturn, 1) := by decide +kernel
theorem dX8_restore_0 : decode cX8_restore 0 = .ok (.aload_n 0, 1) := by decide +kernel
theorem dX8_restore_1 : decode cX8_restore 1 = .ok (.iconst 0, 1) := by decide +kernel
theorem dX8_restore_2 : decode cX8_restore 2 = .ok (.putfield 42, 3) := by decide +kernel
theorem dX8_restore_5 : decode cX8_restore 5 = .ok (.aload_n 0, 1) := by decide +kernel
theorem dX8_restore_6 : decode cX8_restore 6 = .ok (.getfield 229, 3) := by decide +kernel
theorem dX8_restore_9 : decode cX8_restore 9 = .ok (.ifCond .ne 9, 3) := by decide +kernel
theorem dX8_restore_12 : decode cX8_restore 12 = .ok (.aload_n 0, 1) := by decide +kernel
theorem dX8_restore_13 : decode cX8_restore 13 = .ok (.iconst 1, 1) := by decide +kernel
theorem dX8_restore_14 : decode cX8_restore 14 = .ok (.invokevirtual 48, 3) := by decide +kernel
theorem dX8_restore_17 : decode cX8_restore 17 = .ok (.ireturn, 1) := by decide +kernel
theorem dX8_restore_18 : decode cX8_restore 18 = .ok (.iconst 0, 1) := by decide +kernel
theorem dX8_restore_19 : decode cX8_restore 19 = .ok (.istore_n 1, 1) := by decide +kernel
theorem dX8_restore_20 : decode cX8_restore 20 = .ok (.iload_n 1, 1) := by decide +kernel
theorem dX8_restore_21 : decode cX8_restore 21 = .ok (.sipush 1032, 3) := by decide +kernel
theorem dX8_restore_24 : decode cX8_restore 24 = .ok (.if_icmp .ge 21, 3) := by decide +kernel
theorem dX8_restore_27 : decode cX8_restore 27 = .ok (.aload_n 0, 1) := by decide +kernel
theorem dX8_restore_28 : decode cX8_restore 28 = .ok (.getfield 9, 3) := by decide +kernel
theorem dX8_restore_31 : decode cX8_restore 31 = .ok (.iload_n 1, 1) := by decide +kernel
theorem dX8_restore_32 : decode cX8_restore 32 = .ok (.aload_n 0, 1) := by decide +kernel
theorem dX8_restore_33 : decode cX8_restore 33 = .ok (.getfield 16, 3) := by decide +kernel
theorem dX8_restore_36 : decode cX8_restore 36 = .ok (.iload_n 1, 1) := by decide +kernel
theorem dX8_restore_37 : decode cX8_restore 37 = .ok (.iaload, 1) := by decide +kernel
theorem dX8_restore_38 : decode cX8_restore 38 = .ok (.iastore, 1) := by decide +kernel
theorem dX8_restore_39 : decode cX8_restore 39 = .ok (.iinc 1 1, 3) := by decide +kernel
theorem dX8_restore_42 : decode cX8_restore 42 = .ok (.goto (-22), 3) := by decide +kernel
theorem dX8_restore_45 : decode cX8_restore 45 = .ok (.aload_n 0, 1) := by decide +kernel
theorem dX8_restore_46 : decode cX8_restore 46 = .ok (.iconst 0, 1) := by decide +kernel
theorem dX8_restore_47 : decode cX8_restore 47 = .ok (.putfield 52, 3) := by decide +kernel
theorem dX8_restore_50 : decode cX8_restore 50 = .ok (.aload_n 0, 1) := by decide +kernel
theorem dX8_restore_51 : decode cX8_restore 51 = .ok (.getfield 9, 3) := by decide +kernel
theorem dX8_restore_54 : decode cX8_restore 54 = .ok (.iconst 0, 1) := by decide +kernel
theorem dX8_restore_55 : decode cX8_restore 55 = .ok (.iaload, 1) := by decide +kernel
theorem dX8_restore_56 : decode cX8_restore 56 = .ok (.ireturn, 1) := by decide +kernel
