theorem dX0_init_0 : decode cX0_init 0 = .ok (.aload_n 0, 1) := by decide +kernel
theorem dX0_init_1 : decode cX0_init 1 = .ok (.invokespecial 3, 3) := by decide +kernel
theorem dX0_init_4 : decode cX0_init 4 = .ok (.aload_n 0, 1) := by decide +kernel
theorem dX0_init_5 : decode cX0_init 5 = .ok (.new 9, 3) := by decide +kernel
theorem dX0_init_8 : decode cX0_init 8 = .ok (.dup, 1) := by decide +kernel
theorem dX0_init_9 : decode cX0_init 9 = .ok (.bipush 16, 2) := by decide +kernel
theorem dX0_init_11 : decode cX0_init 11 = .ok (.bipush 7, 2) := by decide +kernel
theorem dX0_init_13 : decode cX0_init 13 = .ok (.invokespecial 11, 3) := by decide +kernel
theorem dX0_init_16 : decode cX0_init 16 = .ok (.putfield 14, 3) := by decide +kernel
theorem dX0_init_19 : decode cX0_init 19 = .ok (.aload_n 0, 1) := by decide +kernel
theorem dX0_init_20 : decode cX0_init 20 = .ok (.iconst 0, 1) := by decide +kernel
theorem dX0_init_21 : decode cX0_init 21 = .ok (.putfield 20, 3) := by decide +kernel
theorem dX0_init_24 : decode cX0_init 24 = .ok (.return_, 1) := by decide +kernel
theorem dX0_copyFrom_0 : decode cX0_copyFrom 0 = .ok (.aload_n 0, 1) := by decide +kernel
theorem dX0_copyFrom_1 : decode cX0_copyFrom 1 = .ok (.getfield 14, 3) := by decide +kernel
theorem dX0_copyFrom_4 : decode cX0_copyFrom 4 = .ok (.aload_n 1, 1) := by decide +kernel
theorem dX0_copyFrom_5 : decode cX0_copyFrom 5 = .ok (.getfield 14, 3) := by decide +kernel
theorem dX0_copyFrom_8 : decode cX0_copyFrom 8 = .ok (.invokevirtual 24, 3) := by decide +kernel
theorem dX0_copyFrom_11 : decode cX0_copyFrom 11 = .ok (.aload_n 0, 1) := by decide +kernel
theorem dX0_copyFrom_12 : decode cX0_copyFrom 12 = .ok (.aload_n 1, 1) := by decide +kernel
theorem dX0_copyFrom_13 : decode cX0_copyFrom 13 = .ok (.getfield 20, 3) := by decide +kernel
theorem dX0_copyFrom_16 : decode cX0_copyFrom 16 = .ok (.putfield 20, 3) := by decide +kernel
theorem dX0_copyFrom_19 : decode cX0_copyFrom 19 = .ok (.return_, 1) := by decide +kernel
theorem dX0_fill_0 : decode cX0_fill 0 = .ok (.aload_n 0, 1) := by decide +kernel
theorem dX0_fill_1 : decode cX0_fill 1 = .ok (.getfield 20, 3) := by decide +kernel
theorem dX0_fill_4 : decode cX0_fill 4 = .ok (.istore_n 3, 1) := by decide +kernel
theorem dX0_fill_5 : decode cX0_fill 5 = .ok (.aload_n 0, 1) := by decide +kernel
theorem dX0_fill_6 : decode cX0_fill 6 = .ok (.getfield 14, 3) := by decide +kernel
theorem dX0_fill_9 : decode cX0_fill 9 = .ok (.iload_n 3, 1) := by decide +kernel
theorem dX0_fill_10 : decode cX0_fill 10 = .ok (.iconst 0, 1) := by decide +kernel
theorem dX0_fill_11 : decode cX0_fill 11 = .ok (.iload_n 1, 1) := by decide +kernel
theorem dX0_fill_12 : decode cX0_fill 12 = .ok (.invokevirtual 28, 3) := by decide +kernel
theorem dX0_fill_15 : decode cX0_fill 15 = .ok (.aload_n 0, 1) := by decide +kernel
theorem dX0_fill_16 : decode cX0_fill 16 = .ok (.getfield 14, 3) := by decide +kernel
theorem dX0_fill_19 : decode cX0_fill 19 = .ok (.iload_n 3, 1) := by decide +kernel
theorem dX0_fill_20 : decode cX0_fill 20 = .ok (.iconst 1, 1) := by decide +kernel
theorem dX0_fill_21 : decode cX0_fill 21 = .ok (.iload_n 2, 1) := by decide +kernel
theorem dX0_fill_22 : decode cX0_fill 22 = .ok (.invokevirtual 28, 3) := by decide +kernel
theorem dX0_fill_25 : decode cX0_fill 25 = .ok (.aload_n 0, 1) := by decide +kernel
theorem dX0_fill_26 : decode cX0_fill 26 = .ok (.getfield 14, 3) := by decide +kernel
theorem dX0_fill_29 : decode cX0_fill 29 = .ok (.iload_n 3, 1) := by decide +kernel
theorem dX0_fill_30 : decode cX0_fill 30 = .ok (.iconst 2, 1) := by decide +kernel
theorem dX0_fill_31 : decode cX0_fill 31 = .ok (.iload_n 2, 1) := by decide +kernel
theorem dX0_fill_32 : decode cX0_fill 32 = .ok (.invokevirtual 28, 3) := by decide +kernel
theorem dX0_fill_35 : decode cX0_fill 35 = .ok (.aload_n 0, 1) := by decide +kernel
theorem dX0_fill_36 : decode cX0_fill 36 = .ok (.dup, 1) := by decide +kernel
theorem dX0_fill_37 : decode cX0_fill 37 = .ok (.getfield 20, 3) := by decide +kernel
theorem dX0_fill_40 : decode cX0_fill 40 = .ok (.iconst 1, 1) := by decide +kernel
theorem dX0_fill_41 : decode cX0_fill 41 = .ok (.iadd, 1) := by decide +kernel
theorem dX0_fill_42 : decode cX0_fill 42 = .ok (.putfield 20, 3) := by decide +kernel
theorem dX0_fill_45 : decode cX0_fill 45 = .ok (.iload_n 3, 1) := by decide +kernel
theorem dX0_fill_46 : decode cX0_fill 46 = .ok (.ireturn, 1) := by decide +kernel
theorem dX0_putLabel_0 : decode cX0_putLabel 0 = .ok (.aload_n 0, 1) := by decide +kernel
theorem dX0_putLabel_1 : decode cX0_putLabel 1 = .ok (.getfield 14, 3) := by decide +kernel
theorem dX0_putLabel_4 : decode cX0_putLabel 4 = .ok (.iload_n 1, 1) := by decide +kernel
theorem dX0_putLabel_5 : decode cX0_putLabel 5 = .ok (.iconst 3, 1) := by decide +kernel
theorem dX0_putLabel_6 : decode cX0_putLabel 6 = .ok (.iload_n 2, 1) := by decide +kernel
theorem dX0_putLabel_7 : decode cX0_putLabel 7 = .ok (.invokevirtual 28, 3) := by decide +kernel
theorem dX0_putLabel_10 : decode cX0_putLabel 10 = .ok (.aload_n 0, 1) := by decide +kernel
theorem dX0_putLabel_11 : decode cX0_putLabel 11 = .ok (.getfield 14, 3) := by decide +kernel
theorem dX0_putLabel_14 : decode cX0_putLabel 14 = .ok (.iload_n 1, 1) := by decide +kernel
theorem dX0_putLabel_15 : decode cX0_putLabel 15 = .ok (.iconst 4, 1) := by decide +kernel
theorem dX0_putLabel_16 : decode cX0_putLabel 16 = .ok (.iload_n 3, 1) := by decide +kernel
theorem dX0_putLabel_17 : decode cX0_putLabel 17 = .ok (.invokevirtual 28, 3) := by decide +kernel
theorem dX0_putLabel_20 : decode cX0_putLabel 20 = .ok (.aload_n 0, 1) := by decide +kernel
theorem dX0_putLabel_21 : decode cX0_putLabel 21 = .ok (.getfield 14, 3) := by decide +kernel
theorem dX0_putLabel_24 : decode cX0_putLabel 24 = .ok (.iload_n 1, 1) := by decide +kernel
theorem dX0_putLabel_25 : decode cX0_putLabel 25 = .ok (.iconst 5, 1) := by decide +kernel
theorem dX0_putLabel_26 : decode cX0_putLabel 26 = .ok (.iload 4, 2) := by decide +kernel
theorem dX0_putLabel_28 : decode cX0_putLabel 28 = .ok (.invokevirtual 28, 3) := by decide +kernel
theorem dX0_putLabel_31 : decode cX0_putLabel 31 = .ok (.aload_n 0, 1) := by decide +kernel
theorem dX0_putLabel_32 : decode cX0_putLabel 32 = .ok (.getfield 14, 3) := by decide +kernel
theorem dX0_putLabel_35 : decode cX0_putLabel 35 = .ok (.iload_n 1, 1) := by decide +kernel
theorem dX0_putLabel_36 : decode cX0_putLabel 36 = .ok (.bipush 6, 2) := by decide +kernel
theorem dX0_putLabel_38 : decode cX0_putLabel 38 = .ok (.iload 5, 2) := by decide +kernel
theorem dX0_putLabel_40 : decode cX0_putLabel 40 = .ok (.invokevirtual 28, 3) := by decide +kernel
theorem dX0_putLabel_43 : decode cX0_putLabel 43 = .ok (.return_, 1) := by decide +kernel
theorem dX0_lotOf_0 : decode cX0_lotOf 0 = .ok (.aload_n 0, 1) := by decide +kernel
theorem dX0_lotOf_1 : decode cX0_lotOf 1 = .ok (.getfield 14, 3) := by decide +kernel
theorem dX0_lotOf_4 : decode cX0_lotOf 4 = .ok (.iload_n 1, 1) := by decide +kernel
theorem dX0_lotOf_5 : decode cX0_lotOf 5 = .ok (.iconst 0, 1) := by decide +kernel
theorem dX0_lotOf_6 : decode cX0_lotOf 6 = .ok (.invokevirtual 32, 3) := by decide +kernel
theorem dX0_lotOf_9 : decode cX0_lotOf 9 = .ok (.ireturn, 1) := by decide +kernel
theorem dX0_stockOf_0 : decode cX0_stockOf 0 = .ok (.aload_n 0, 1) := by decide +kernel
theorem dX0_stockOf_1 : decode cX0_stockOf 1 = .ok (.getfield 14, 3) := by decide +kernel
theorem dX0_stockOf_4 : decode cX0_stockOf 4 = .ok (.iload_n 1, 1) := by decide +kernel
theorem dX0_stockOf_5 : decode cX0_stockOf 5 = .ok (.iconst 2, 1) := by decide +kernel
theorem dX0_stockOf_6 : decode cX0_stockOf 6 = .ok (.invokevirtual 32, 3) := by decide +kernel
theorem dX0_stockOf_9 : decode cX0_stockOf 9 = .ok (.ireturn, 1) := by decide +kernel
theorem dX0_addToStock_0 : decode cX0_addToStock 0 = .ok (.aload_n 0, 1) := by decide +kernel
theorem dX0_addToStock_1 : decode cX0_addToStock 1 = .ok (.getfield 14, 3) := by decide +kernel
theorem dX0_addToStock_4 : decode cX0_addToStock 4 = .ok (.iload_n 1, 1) := by decide +kernel
theorem dX0_addToStock_5 : decode cX0_addToStock 5 = .ok (.iconst 2, 1) := by decide +kernel
theorem dX0_addToStock_6 : decode cX0_addToStock 6 = .ok (.iload_n 2, 1) := by decide +kernel
theorem dX0_addToStock_7 : decode cX0_addToStock 7 = .ok (.invokevirtual 36, 3) := by decide +kernel
theorem dX0_addToStock_10 : decode cX0_addToStock 10 = .ok (.return_, 1) := by decide +kernel
theorem dX0_ofLots_0 : decode cX0_ofLots 0 = .ok (.iconst 0, 1) := by decide +kernel
theorem dX0_ofLots_1 : decode cX0_ofLots 1 = .ok (.istore_n 2, 1) := by decide +kernel
theorem dX0_ofLots_2 : decode cX0_ofLots 2 = .ok (.iconst 0, 1) := by decide +kernel
theorem dX0_ofLots_3 : decode cX0_ofLots 3 = .ok (.istore_n 3, 1) := by decide +kernel
theorem dX0_ofLots_4 : decode cX0_ofLots 4 = .ok (.iload_n 3, 1) := by decide +kernel
theorem dX0_ofLots_5 : decode cX0_ofLots 5 = .ok (.aload_n 0, 1) := by decide +kernel
theorem dX0_ofLots_6 : decode cX0_ofLots 6 = .ok (.getfield 20, 3) := by decide +kernel
theorem dX0_ofLots_9 : decode cX0_ofLots 9 = .ok (.if_icmp .ge 27, 3) := by decide +kernel
theorem dX0_ofLots_12 : decode cX0_ofLots 12 = .ok (.iload_n 1, 1) := by decide +kernel
theorem dX0_ofLots_13 : decode cX0_ofLots 13 = .ok (.aload_n 0, 1) := by decide +kernel
theorem dX0_ofLots_14 : decode cX0_ofLots 14 = .ok (.iload_n 3, 1) := by decide +kernel
theorem dX0_ofLots_15 : decode cX0_ofLots 15 = .ok (.invokevirtual 39, 3) := by decide +kernel
theorem dX0_ofLots_18 : decode cX0_ofLots 18 = .ok (.invokestatic 43, 3) := by decide +kernel
theorem dX0_ofLots_21 : decode cX0_ofLots 21 = .ok (.ifCond .eq 9, 3) := by decide +kernel
theorem dX0_ofLots_24 : decode cX0_ofLots 24 = .ok (.iload_n 2, 1) := by decide +kernel
theorem dX0_ofLots_25 : decode cX0_ofLots 25 = .ok (.iconst 1, 1) := by decide +kernel
theorem dX0_ofLots_26 : decode cX0_ofLots 26 = .ok (.iload_n 3, 1) := by decide +kernel
theorem dX0_ofLots_27 : decode cX0_ofLots 27 = .ok (.ishl, 1) := by decide +kernel
theorem dX0_ofLots_28 : decode cX0_ofLots 28 = .ok (.ior, 1) := by decide +kernel
theorem dX0_ofLots_29 : decode cX0_ofLots 29 = .ok (.istore_n 2, 1) := by decide +kernel
theorem dX0_ofLots_30 : decode cX0_ofLots 30 = .ok (.iinc 3 1, 3) := by decide +kernel
theorem dX0_ofLots_33 : decode cX0_ofLots 33 = .ok (.goto (-29), 3) := by decide +kernel
theorem dX0_ofLots_36 : decode cX0_ofLots 36 = .ok (.iload_n 2, 1) := by decide +kernel
theorem dX0_ofLots_37 : decode cX0_ofLots 37 = .ok (.ireturn, 1) := by decide +kernel
theorem dX0_stockOfAll_0 : decode cX0_stockOfAll 0 = .ok (.iconst 0, 1) := by decide +kernel
theorem dX0_stockOfAll_1 : decode cX0_stockOfAll 1 = .ok (.istore_n 2, 1) := by decide +kernel
theorem dX0_stockOfAll_2 : decode cX0_stockOfAll 2 = .ok (.iconst 0, 1) := by decide +kernel
theorem dX0_stockOfAll_3 : decode cX0_stockOfAll 3 = .ok (.istore_n 3, 1) := by decide +kernel
theorem dX0_stockOfAll_4 : decode cX0_stockOfAll 4 = .ok (.iload_n 3, 1) := by decide +kernel
theorem dX0_stockOfAll_5 : decode cX0_stockOfAll 5 = .ok (.aload_n 0, 1) := by decide +kernel
theorem dX0_stockOfAll_6 : decode cX0_stockOfAll 6 = .ok (.getfield 20, 3) := by decide +kernel
theorem dX0_stockOfAll_9 : decode cX0_stockOfAll 9 = .ok (.if_icmp .ge 25, 3) := by decide +kernel
theorem dX0_stockOfAll_12 : decode cX0_stockOfAll 12 = .ok (.iload_n 1, 1) := by decide +kernel
theorem dX0_stockOfAll_13 : decode cX0_stockOfAll 13 = .ok (.iload_n 3, 1) := by decide +kernel
theorem dX0_stockOfAll_14 : decode cX0_stockOfAll 14 = .ok (.invokestatic 43, 3) := by decide +kernel
theorem dX0_stockOfAll_17 : decode cX0_stockOfAll 17 = .ok (.ifCond .eq 11, 3) := by decide +kernel
theorem dX0_stockOfAll_20 : decode cX0_stockOfAll 20 = .ok (.iload_n 2, 1) := by decide +kernel
theorem dX0_stockOfAll_21 : decode cX0_stockOfAll 21 = .ok (.aload_n 0, 1) := by decide +kernel
theorem dX0_stockOfAll_22 : decode cX0_stockOfAll 22 = .ok (.iload_n 3, 1) := by decide +kernel
theorem dX0_stockOfAll_23 : decode cX0_stockOfAll 23 = .ok (.invokevirtual 47, 3) := by decide +kernel
theorem dX0_stockOfAll_26 : decode cX0_stockOfAll 26 = .ok (.iadd, 1) := by decide +kernel
theorem dX0_stockOfAll_27 : decode cX0_stockOfAll 27 = .ok (.istore_n 2, 1) := by decide +kernel
theorem dX0_stockOfAll_28 : decode cX0_stockOfAll 28 = .ok (.iinc 3 1, 3) := by decide +kernel
theorem dX0_stockOfAll_31 : decode cX0_stockOfAll 31 = .ok (.goto (-27), 3) := by decide +kernel
theorem dX0_stockOfAll_34 : decode cX0_stockOfAll 34 = .ok (.iload_n 2, 1) := by decide +kernel
theorem dX0_stockOfAll_35 : decode cX0_stockOfAll 35 = .ok (.ireturn, 1) := by decide +kernel
theorem dX0_bottledQuarters_0 : decode cX0_bottledQuarters 0 = .ok (.aload_n 0, 1) := by decide +kernel
theorem dX0_bottledQuarters_1 : decode cX0_bottledQuarters 1 = .ok (.getfield 14, 3) := by decide +kernel
theorem dX0_bottledQuarters_4 : decode cX0_bottledQuarters 4 = .ok (.iconst 1, 1) := by decide +kernel
theorem dX0_bottledQuarters_5 : decode cX0_bottledQuarters 5 = .ok (.invokevirtual 50, 3) := by decide +kernel
theorem dX0_bottledQuarters_8 : decode cX0_bottledQuarters 8 = .ok (.iconst 3, 1) := by decide +kernel
theorem dX0_bottledQuarters_9 : decode cX0_bottledQuarters 9 = .ok (.imul, 1) := by decide +kernel
theorem dX0_bottledQuarters_10 : decode cX0_bottledQuarters 10 = .ok (.ireturn, 1) := by decide +kernel
theorem dX1_init_0 : decode cX1_init 0 = .ok (.aload_n 0, 1) := by decide +kernel
theorem dX1_init_1 : decode cX1_init 1 = .ok (.invokespecial 3, 3) := by decide +kernel
theorem dX1_init_4 : decode cX1_init 4 = .ok (.aload_n 0, 1) := by decide +kernel
theorem dX1_init_5 : decode cX1_init 5 = .ok (.new 9, 3) := by decide +kernel
theorem dX1_init_8 : decode cX1_init 8 = .ok (.dup, 1) := by decide +kernel
theorem dX1_init_9 : decode cX1_init 9 = .ok (.bipush 8, 2) := by decide +kernel
theorem dX1_init_11 : decode cX1_init 11 = .ok (.iconst 1, 1) := by decide +kernel
theorem dX1_init_12 : decode cX1_init 12 = .ok (.invokespecial 11, 3) := by decide +kernel
theorem dX1_init_15 : decode cX1_init 15 = .ok (.putfield 14, 3) := by decide +kernel
theorem dX1_init_18 : decode cX1_init 18 = .ok (.aload_n 0, 1) := by decide +kernel
theorem dX1_init_19 : decode cX1_init 19 = .ok (.new 9, 3) := by decide +kernel
theorem dX1_init_22 : decode cX1_init 22 = .ok (.dup, 1) := by decide +kernel
theorem dX1_init_23 : decode cX1_init 23 = .ok (.bipush 8, 2) := by decide +kernel
theorem dX1_init_25 : decode cX1_init 25 = .ok (.bipush 16, 2) := by decide +kernel
theorem dX1_init_27 : decode cX1_init 27 = .ok (.invokespecial 11, 3) := by decide +kernel
theorem dX1_init_30 : decode cX1_init 30 = .ok (.putfield 20, 3) := by decide +kernel
theorem dX1_init_33 : decode cX1_init 33 = .ok (.aload_n 0, 1) := by decide +kernel
theorem dX1_init_34 : decode cX1_init 34 = .ok (.new 9, 3) := by decide +kernel
theorem dX1_init_37 : decode cX1_init 37 = .ok (.dup, 1) := by decide +kernel
theorem dX1_init_38 : decode cX1_init 38 = .ok (.bipush 8, 2) := by decide +kernel
theorem dX1_init_40 : decode cX1_init 40 = .ok (.bipush 16, 2) := by decide +kernel
theorem dX1_init_42 : decode cX1_init 42 = .ok (.invokespecial 11, 3) := by decide +kernel
theorem dX1_init_45 : decode cX1_init 45 = .ok (.putfield 23, 3) := by decide +kernel
theorem dX1_init_48 : decode cX1_init 48 = .ok (.aload_n 0, 1) := by decide +kernel
theorem dX1_init_49 : decode cX1_init 49 = .ok (.iconst 0, 1) := by decide +kernel
theorem dX1_init_50 : decode cX1_init 50 = .ok (.putfield 26, 3) := by decide +kernel
theorem dX1_init_53 : decode cX1_init 53 = .ok (.return_, 1) := by decide +kernel
theorem dX1_copyFrom_0 : decode cX1_copyFrom 0 = .ok (.aload_n 0, 1) := by decide +kernel
theorem dX1_copyFrom_1 : decode cX1_copyFrom 1 = .ok (.getfield 14, 3) := by decide +kernel
theorem dX1_copyFrom_4 : decode cX1_copyFrom 4 = .ok (.aload_n 1, 1) := by decide +kernel
theorem dX1_copyFrom_5 : decode cX1_copyFrom 5 = .ok (.getfield 14, 3) := by decide +kernel
theorem dX1_copyFrom_8 : decode cX1_copyFrom 8 = .ok (.invokevirtual 30, 3) := by decide +kernel
theorem dX1_copyFrom_11 : decode cX1_copyFrom 11 = .ok (.aload_n 0, 1) := by decide +kernel
theorem dX1_copyFrom_12 : decode cX1_copyFrom 12 = .ok (.getfield 20, 3) := by decide +kernel
theorem dX1_copyFrom_15 : decode cX1_copyFrom 15 = .ok (.aload_n 1, 1) := by decide +kernel
theorem dX1_copyFrom_16 : decode cX1_copyFrom 16 = .ok (.getfield 20, 3) := by decide +kernel
theorem dX1_copyFrom_19 : decode cX1_copyFrom 19 = .ok (.invokevirtual 30, 3) := by decide +kernel
theorem dX1_copyFrom_22 : decode cX1_copyFrom 22 = .ok (.aload_n 0, 1) := by decide +kernel
theorem dX1_copyFrom_23 : decode cX1_copyFrom 23 = .ok (.getfield 23, 3) := by decide +kernel
theorem dX1_copyFrom_26 : decode cX1_copyFrom 26 = .ok (.aload_n 1, 1) := by decide +kernel
theorem dX1_copyFrom_27 : decode cX1_copyFrom 27 = .ok (.getfield 23, 3) := by decide +kernel
theorem dX1_copyFrom_30 : decode cX1_copyFrom 30 = .ok (.invokevirtual 30, 3) := by decide +kernel
theorem dX1_copyFrom_33 : decode cX1_copyFrom 33 = .ok (.aload_n 0, 1) := by decide +kernel
theorem dX1_copyFrom_34 : decode cX1_copyFrom 34 = .ok (.aload_n 1, 1) := by decide +kernel
theorem dX1_copyFrom_35 : decode cX1_copyFrom 35 = .ok (.getfield 26, 3) := by decide +kernel
theorem dX1_copyFrom_38 : decode cX1_copyFrom 38 = .ok (.putfield 26, 3) := by decide +kernel
theorem dX1_copyFrom_41 : decode cX1_copyFrom 41 = .ok (.return_, 1) := by decide +kernel
theorem dX1_enter_0 : decode cX1_enter 0 = .ok (.aload_n 0, 1) := by decide +kernel
theorem dX1_enter_1 : decode cX1_enter 1 = .ok (.getfield 26, 3) := by decide +kernel
theorem dX1_enter_4 : decode cX1_enter 4 = .ok (.istore_n 2, 1) := by decide +kernel
theorem dX1_enter_5 : decode cX1_enter 5 = .ok (.aload_n 0, 1) := by decide +kernel
theorem dX1_enter_6 : decode cX1_enter 6 = .ok (.getfield 14, 3) := by decide +kernel
theorem dX1_enter_9 : decode cX1_enter 9 = .ok (.iload_n 2, 1) := by decide +kernel
theorem dX1_enter_10 : decode cX1_enter 10 = .ok (.iconst 0, 1) := by decide +kernel
theorem dX1_enter_11 : decode cX1_enter 11 = .ok (.iload_n 1, 1) := by decide +kernel
theorem dX1_enter_12 : decode cX1_enter 12 = .ok (.invokevirtual 34, 3) := by decide +kernel
theorem dX1_enter_15 : decode cX1_enter 15 = .ok (.aload_n 0, 1) := by decide +kernel
theorem dX1_enter_16 : decode cX1_enter 16 = .ok (.dup, 1) := by decide +kernel
theorem dX1_enter_17 : decode cX1_enter 17 = .ok (.getfield 26, 3) := by decide +kernel
theorem dX1_enter_20 : decode cX1_enter 20 = .ok (.iconst 1, 1) := by decide +kernel
theorem dX1_enter_21 : decode cX1_enter 21 = .ok (.iadd, 1) := by decide +kernel
theorem dX1_enter_22 : decode cX1_enter 22 = .ok (.putfield 26, 3) := by decide +kernel
theorem dX1_enter_25 : decode cX1_enter 25 = .ok (.iload_n 2, 1) := by decide +kernel
theorem dX1_enter_26 : decode cX1_enter 26 = .ok (.ireturn, 1) := by decide +kernel
theorem dX1_missingTo_0 : decode cX1_missingTo 0 = .ok (.iconst 0, 1) := by decide +kernel
theorem dX1_missingTo_1 : decode cX1_missingTo 1 = .ok (.aload_n 0, 1) := by decide +kernel
theorem dX1_missingTo_2 : decode cX1_missingTo 2 = .ok (.getfield 23, 3) := by decide +kernel
theorem dX1_missingTo_5 : decode cX1_missingTo 5 = .ok (.iload_n 1, 1) := by decide +kernel
theorem dX1_missingTo_6 : decode cX1_missingTo 6 = .ok (.iload_n 2, 1) := by decide +kernel
theorem dX1_missingTo_7 : decode cX1_missingTo 7 = .ok (.invokevirtual 38, 3) := by decide +kernel
theorem dX1_missingTo_10 : decode cX1_missingTo 10 = .ok (.aload_n 0, 1) := by decide +kernel
theorem dX1_missingTo_11 : decode cX1_missingTo 11 = .ok (.getfield 20, 3) := by decide +kernel
theorem dX1_missingTo_14 : decode cX1_missingTo 14 = .ok (.iload_n 1, 1) := by decide +kernel
theorem dX1_missingTo_15 : decode cX1_missingTo 15 = .ok (.iload_n 2, 1) := by decide +kernel
theorem dX1_missingTo_16 : decode cX1_missingTo 16 = .ok (.invokevirtual 38, 3) := by decide +kernel
theorem dX1_missingTo_19 : decode cX1_missingTo 19 = .ok (.isub, 1) := by decide +kernel
theorem dX1_missingTo_20 : decode cX1_missingTo 20 = .ok (.invokestatic 42, 3) := by decide +kernel
theorem dX1_missingTo_23 : decode cX1_missingTo 23 = .ok (.ireturn, 1) := by decide +kernel
theorem dX1_portionOf_0 : decode cX1_portionOf 0 = .ok (.aload_n 0, 1) := by decide +kernel
theorem dX1_portionOf_1 : decode cX1_portionOf 1 = .ok (.getfield 14, 3) := by decide +kernel
theorem dX1_portionOf_4 : decode cX1_portionOf 4 = .ok (.iload_n 1, 1) := by decide +kernel
theorem dX1_portionOf_5 : decode cX1_portionOf 5 = .ok (.iconst 0, 1) := by decide +kernel
theorem dX1_portionOf_6 : decode cX1_portionOf 6 = .ok (.invokevirtual 38, 3) := by decide +kernel
theorem dX1_portionOf_9 : decode cX1_portionOf 9 = .ok (.lookupswitch 33 #[(0, 27), (1, 30)], 27) := by decide +kernel
theorem dX1_portionOf_36 : decode cX1_portionOf 36 = .ok (.bipush 12, 2) := by decide +kernel
theorem dX1_portionOf_38 : decode cX1_portionOf 38 = .ok (.ireturn, 1) := by decide +kernel
theorem dX1_portionOf_39 : decode cX1_portionOf 39 = .ok (.bipush 6, 2) := by decide +kernel
theorem dX1_portionOf_41 : decode cX1_portionOf 41 = .ok (.ireturn, 1) := by decide +kernel
theorem dX1_portionOf_42 : decode cX1_portionOf 42 = .ok (.iconst 3, 1) := by decide +kernel
theorem dX1_portionOf_43 : decode cX1_portionOf 43 = .ok (.ireturn, 1) := by decide +kernel
theorem dX1_lineUp_0 : decode cX1_lineUp 0 = .ok (.iconst 0, 1) := by decide +kernel
theorem dX1_lineUp_1 : decode cX1_lineUp 1 = .ok (.istore_n 3, 1) := by decide +kernel
theorem dX1_lineUp_2 : decode cX1_lineUp 2 = .ok (.iconst 0, 1) := by decide +kernel
theorem dX1_lineUp_3 : decode cX1_lineUp 3 = .ok (.istore 4, 2) := by decide +kernel
theorem dX1_lineUp_5 : decode cX1_lineUp 5 = .ok (.iload 4, 2) := by decide +kernel
theorem dX1_lineUp_7 : decode cX1_lineUp 7 = .ok (.iconst 3, 1) := by decide +kernel
theorem dX1_lineUp_8 : decode cX1_lineUp 8 = .ok (.if_icmp .ge 63, 3) := by decide +kernel
theorem dX1_lineUp_11 : decode cX1_lineUp 11 = .ok (.iconst 0, 1) := by decide +kernel
theorem dX1_lineUp_12 : decode cX1_lineUp 12 = .ok (.istore 5, 2) := by decide +kernel
theorem dX1_lineUp_14 : decode cX1_lineUp 14 = .ok (.iload 5, 2) := by decide +kernel
theorem dX1_lineUp_16 : decode cX1_lineUp 16 = .ok (.aload_n 0, 1) := by decide +kernel
theorem dX1_lineUp_17 : decode cX1_lineUp 17 = .ok (.getfield 26, 3) := by decide +kernel
theorem dX1_lineUp_20 : decode cX1_lineUp 20 = .ok (.if_icmp .ge 45, 3) := by decide +kernel
theorem dX1_lineUp_23 : decode cX1_lineUp 23 = .ok (.aload_n 0, 1) := by decide +kernel
theorem dX1_lineUp_24 : decode cX1_lineUp 24 = .ok (.getfield 14, 3) := by decide +kernel
theorem dX1_lineUp_27 : decode cX1_lineUp 27 = .ok (.iload 5, 2) := by decide +kernel
theorem dX1_lineUp_29 : decode cX1_lineUp 29 = .ok (.iconst 0, 1) := by decide +kernel
theorem dX1_lineUp_30 : decode cX1_lineUp 30 = .ok (.invokevirtual 38, 3) := by decide +kernel
theorem dX1_lineUp_33 : decode cX1_lineUp 33 = .ok (.iload 4, 2) := by decide +kernel
theorem dX1_lineUp_35 : decode cX1_lineUp 35 = .ok (.if_icmp .ne 24, 3) := by decide +kernel
theorem dX1_lineUp_38 : decode cX1_lineUp 38 = .ok (.aload_n 0, 1) := by decide +kernel
theorem dX1_lineUp_39 : decode cX1_lineUp 39 = .ok (.iload 5, 2) := by decide +kernel
theorem dX1_lineUp_41 : decode cX1_lineUp 41 = .ok (.iload_n 1, 1) := by decide +kernel
theorem dX1_lineUp_42 : decode cX1_lineUp 42 = .ok (.invokevirtual 47, 3) := by decide +kernel
theorem dX1_lineUp_45 : decode cX1_lineUp 45 = .ok (.ifCond .le 14, 3) := by decide +kernel
theorem dX1_lineUp_48 : decode cX1_lineUp 48 = .ok (.aload_n 2, 1) := by decide +kernel
theorem dX1_lineUp_49 : decode cX1_lineUp 49 = .ok (.iconst 0, 1) := by decide +kernel
theorem dX1_lineUp_50 : decode cX1_lineUp 50 = .ok (.iload_n 3, 1) := by decide +kernel
theorem dX1_lineUp_51 : decode cX1_lineUp 51 = .ok (.iload 5, 2) := by decide +kernel
theorem dX1_lineUp_53 : decode cX1_lineUp 53 = .ok (.invokevirtual 34, 3) := by decide +kernel
theorem dX1_lineUp_56 : decode cX1_lineUp 56 = .ok (.iinc 3 1, 3) := by decide +kernel
theorem dX1_lineUp_59 : decode cX1_lineUp 59 = .ok (.iinc 5 1, 3) := by decide +kernel
theorem dX1_lineUp_62 : decode cX1_lineUp 62 = .ok (.goto (-48), 3) := by decide +kernel
theorem dX1_lineUp_65 : decode cX1_lineUp 65 = .ok (.iinc 4 1, 3) := by decide +kernel
theorem dX1_lineUp_68 : decode cX1_lineUp 68 = .ok (.goto (-63), 3) := by decide +kernel
theorem dX1_lineUp_71 : decode cX1_lineUp 71 = .ok (.iload_n 3, 1) := by decide +kernel
theorem dX1_lineUp_72 : decode cX1_lineUp 72 = .ok (.ireturn, 1) := by decide +kernel
theorem dX1_handOut_0 : decode cX1_handOut 0 = .ok (.aload_n 0, 1) := by decide +kernel
theorem dX1_handOut_1 : decode cX1_handOut 1 = .ok (.iload_n 1, 1) := by decide +kernel
theorem dX1_handOut_2 : decode cX1_handOut 2 = .ok (.aload_n 3, 1) := by decide +kernel
theorem dX1_handOut_3 : decode cX1_handOut 3 = .ok (.invokevirtual 50, 3) := by decide +kernel
theorem dX1_handOut_6 : decode cX1_handOut 6 = .ok (.istore 4, 2) := by decide +kernel
theorem dX1_handOut_8 : decode cX1_handOut 8 = .ok (.iconst 0, 1) := by decide +kernel
theorem dX1_handOut_9 : decode cX1_handOut 9 = .ok (.istore 5, 2) := by decide +kernel
theorem dX1_handOut_11 : decode cX1_handOut 11 = .ok (.iconst 1, 1) := by decide +kernel
theorem dX1_handOut_12 : decode cX1_handOut 12 = .ok (.istore 6, 2) := by decide +kernel
theorem dX1_handOut_14 : decode cX1_handOut 14 = .ok (.iconst 0, 1) := by decide +kernel
theorem dX1_handOut_15 : decode cX1_handOut 15 = .ok (.istore 7, 2) := by decide +kernel
theorem dX1_handOut_17 : decode cX1_handOut 17 = .ok (.iload 7, 2) := by decide +kernel
theorem dX1_handOut_19 : decode cX1_handOut 19 = .ok (.sipush 3333, 3) := by decide +kernel
theorem dX1_handOut_22 : decode cX1_handOut 22 = .ok (.if_icmp .ge 69, 3) := by decide +kernel
theorem dX1_handOut_25 : decode cX1_handOut 25 = .ok (.iload 6, 2) := by decide +kernel
theorem dX1_handOut_27 : decode cX1_handOut 27 = .ok (.ifCond .eq 64, 3) := by decide +kernel
theorem dX1_handOut_30 : decode cX1_handOut 30 = .ok (.iload 5, 2) := by decide +kernel
theorem dX1_handOut_32 : decode cX1_handOut 32 = .ok (.istore 8, 2) := by decide +kernel
theorem dX1_handOut_34 : decode cX1_handOut 34 = .ok (.iconst 0, 1) := by decide +kernel
theorem dX1_handOut_35 : decode cX1_handOut 35 = .ok (.istore 9, 2) := by decide +kernel
theorem dX1_handOut_37 : decode cX1_handOut 37 = .ok (.iload 9, 2) := by decide +kernel
theorem dX1_handOut_39 : decode cX1_handOut 39 = .ok (.iload 4, 2) := by decide +kernel
theorem dX1_handOut_41 : decode cX1_handOut 41 = .ok (.if_icmp .ge 30, 3) := by decide +kernel
theorem dX1_handOut_44 : decode cX1_handOut 44 = .ok (.iload 5, 2) := by decide +kernel
theorem dX1_handOut_46 : decode cX1_handOut 46 = .ok (.aload_n 0, 1) := by decide +kernel
theorem dX1_handOut_47 : decode cX1_handOut 47 = .ok (.aload_n 3, 1) := by decide +kernel
theorem dX1_handOut_48 : decode cX1_handOut 48 = .ok (.iconst 0, 1) := by decide +kernel
theorem dX1_handOut_49 : decode cX1_handOut 49 = .ok (.iload 9, 2) := by decide +kernel
theorem dX1_handOut_51 : decode cX1_handOut 51 = .ok (.invokevirtual 38, 3) := by decide +kernel
theorem dX1_handOut_54 : decode cX1_handOut 54 = .ok (.iload_n 1, 1) := by decide +kernel
theorem dX1_handOut_55 : decode cX1_handOut 55 = .ok (.iload_n 2, 1) := by decide +kernel
theorem dX1_handOut_56 : decode cX1_handOut 56 = .ok (.iload 5, 2) := by decide +kernel
theorem dX1_handOut_58 : decode cX1_handOut 58 = .ok (.isub, 1) := by decide +kernel
theorem dX1_handOut_59 : decode cX1_handOut 59 = .ok (.invokevirtual 54, 3) := by decide +kernel
theorem dX1_handOut_62 : decode cX1_handOut 62 = .ok (.iadd, 1) := by decide +kernel
theorem dX1_handOut_63 : decode cX1_handOut 63 = .ok (.istore 5, 2) := by decide +kernel
theorem dX1_handOut_65 : decode cX1_handOut 65 = .ok (.iinc 9 1, 3) := by decide +kernel
theorem dX1_handOut_68 : decode cX1_handOut 68 = .ok (.goto (-31), 3) := by decide +kernel
theorem dX1_handOut_71 : decode cX1_handOut 71 = .ok (.iload 5, 2) := by decide +kernel
theorem dX1_handOut_73 : decode cX1_handOut 73 = .ok (.iload 8, 2) := by decide +kernel
theorem dX1_handOut_75 : decode cX1_handOut 75 = .ok (.if_icmp .le 7, 3) := by decide +kernel
theorem dX1_handOut_78 : decode cX1_handOut 78 = .ok (.iconst 1, 1) := by decide +kernel
theorem dX1_handOut_79 : decode cX1_handOut 79 = .ok (.goto 4, 3) := by decide +kernel
theorem dX1_handOut_82 : decode cX1_handOut 82 = .ok (.iconst 0, 1) := by decide +kernel
theorem dX1_handOut_83 : decode cX1_handOut 83 = .ok (.istore 6, 2) := by decide +kernel
theorem dX1_handOut_85 : decode cX1_handOut 85 = .ok (.iinc 7 1, 3) := by decide +kernel
theorem dX1_handOut_88 : decode cX1_handOut 88 = .ok (.goto (-71), 3) := by decide +kernel
theorem dX1_handOut_91 : decode cX1_handOut 91 = .ok (.iload 5, 2) := by decide +kernel
theorem dX1_handOut_93 : decode cX1_handOut 93 = .ok (.ireturn, 1) := by decide +kernel
theorem dX1_handTo_0 : decode cX1_handTo 0 = .ok (.aload_n 0, 1) := by decide +kernel
theorem dX1_handTo_1 : decode cX1_handTo 1 = .ok (.iload_n 1, 1) := by decide +kernel
theorem dX1_handTo_2 : decode cX1_handTo 2 = .ok (.invokevirtual 58, 3) := by decide +kernel
theorem dX1_handTo_5 : decode cX1_handTo 5 = .ok (.aload_n 0, 1) := by decide +kernel
theorem dX1_handTo_6 : decode cX1_handTo 6 = .ok (.iload_n 1, 1) := by decide +kernel
theorem dX1_handTo_7 : decode cX1_handTo 7 = .ok (.iload_n 2, 1) := by decide +kernel
theorem dX1_handTo_8 : decode cX1_handTo 8 = .ok (.invokevirtual 47, 3) := by decide +kernel
theorem dX1_handTo_11 : decode cX1_handTo 11 = .ok (.iload_n 3, 1) := by decide +kernel
theorem dX1_handTo_12 : decode cX1_handTo 12 = .ok (.invokestatic 62, 3) := by decide +kernel
theorem dX1_handTo_15 : decode cX1_handTo 15 = .ok (.invokestatic 62, 3) := by decide +kernel
theorem dX1_handTo_18 : decode cX1_handTo 18 = .ok (.istore 4, 2) := by decide +kernel
theorem dX1_handTo_20 : decode cX1_handTo 20 = .ok (.aload_n 0, 1) := by decide +kernel
theorem dX1_handTo_21 : decode cX1_handTo 21 = .ok (.getfield 20, 3) := by decide +kernel
theorem dX1_handTo_24 : decode cX1_handTo 24 = .ok (.iload_n 1, 1) := by decide +kernel
theorem dX1_handTo_25 : decode cX1_handTo 25 = .ok (.iload_n 2, 1) := by decide +kernel
theorem dX1_handTo_26 : decode cX1_handTo 26 = .ok (.iload 4, 2) := by decide +kernel
theorem dX1_handTo_28 : decode cX1_handTo 28 = .ok (.invokevirtual 65, 3) := by decide +kernel
theorem dX1_handTo_31 : decode cX1_handTo 31 = .ok (.iload 4, 2) := by decide +kernel
theorem dX1_handTo_33 : decode cX1_handTo 33 = .ok (.ireturn, 1) := by decide +kernel
theorem dX1_handIn_0 : decode cX1_handIn 0 = .ok (.aload_n 0, 1) := by decide +kernel
theorem dX1_handIn_1 : decode cX1_handIn 1 = .ok (.getfield 20, 3) := by decide +kernel
theorem dX1_handIn_4 : decode cX1_handIn 4 = .ok (.iload_n 1, 1) := by decide +kernel
theorem dX1_handIn_5 : decode cX1_handIn 5 = .ok (.iload_n 2, 1) := by decide +kernel
theorem dX1_handIn_6 : decode cX1_handIn 6 = .ok (.iload_n 3, 1) := by decide +kernel
theorem dX1_handIn_7 : decode cX1_handIn 7 = .ok (.ineg, 1) := by decide +kernel
theorem dX1_handIn_8 : decode cX1_handIn 8 = .ok (.invokevirtual 65, 3) := by decide +kernel
theorem dX1_handIn_11 : decode cX1_handIn 11 = .ok (.aload_n 0, 1) := by decide +kernel
theorem dX1_handIn_12 : decode cX1_handIn 12 = .ok (.getfield 20, 3) := by decide +kernel
theorem dX1_handIn_15 : decode cX1_handIn 15 = .ok (.iload_n 1, 1) := by decide +kernel
theorem dX1_handIn_16 : decode cX1_handIn 16 = .ok (.iload_n 2, 1) := by decide +kernel
theorem dX1_handIn_17 : decode cX1_handIn 17 = .ok (.invokevirtual 38, 3) := by decide +kernel
theorem dX1_handIn_20 : decode cX1_handIn 20 = .ok (.istore 4, 2) := by decide +kernel
theorem dX1_handIn_22 : decode cX1_handIn 22 = .ok (.aload_n 0, 1) := by decide +kernel
theorem dX1_handIn_23 : decode cX1_handIn 23 = .ok (.getfield 23, 3) := by decide +kernel
theorem dX1_handIn_26 : decode cX1_handIn 26 = .ok (.iload_n 1, 1) := by decide +kernel
theorem dX1_handIn_27 : decode cX1_handIn 27 = .ok (.iload_n 2, 1) := by decide +kernel
theorem dX1_handIn_28 : decode cX1_handIn 28 = .ok (.iload 4, 2) := by decide +kernel
theorem dX1_handIn_30 : decode cX1_handIn 30 = .ok (.aload_n 0, 1) := by decide +kernel
theorem dX1_handIn_31 : decode cX1_handIn 31 = .ok (.getfield 23, 3) := by decide +kernel
theorem dX1_handIn_34 : decode cX1_handIn 34 = .ok (.iload_n 1, 1) := by decide +kernel
theorem dX1_handIn_35 : decode cX1_handIn 35 = .ok (.iload_n 2, 1) := by decide +kernel
theorem dX1_handIn_36 : decode cX1_handIn 36 = .ok (.invokevirtual 38, 3) := by decide +kernel
theorem dX1_handIn_39 : decode cX1_handIn 39 = .ok (.invokestatic 62, 3) := by decide +kernel
theorem dX1_handIn_42 : decode cX1_handIn 42 = .ok (.invokevirtual 34, 3) := by decide +kernel
theorem dX1_handIn_45 : decode cX1_handIn 45 = .ok (.iload 4, 2) := by decide +kernel
theorem dX1_handIn_47 : decode cX1_handIn 47 = .ok (.ireturn, 1) := by decide +kernel
theorem dX1_heldOfAll_0 : decode cX1_heldOfAll 0 = .ok (.iconst 0, 1) := by decide +kernel
theorem dX1_heldOfAll_1 : decode cX1_heldOfAll 1 = .ok (.istore_n 3, 1) := by decide +kernel
theorem dX1_heldOfAll_2 : decode cX1_heldOfAll 2 = .ok (.iconst 0, 1) := by decide +kernel
theorem dX1_heldOfAll_3 : decode cX1_heldOfAll 3 = .ok (.istore 4, 2) := by decide +kernel
theorem dX1_heldOfAll_5 : decode cX1_heldOfAll 5 = .ok (.iload 4, 2) := by decide +kernel
theorem dX1_heldOfAll_7 : decode cX1_heldOfAll 7 = .ok (.bipush 16, 2) := by decide +kernel
theorem dX1_heldOfAll_9 : decode cX1_heldOfAll 9 = .ok (.if_icmp .ge 31, 3) := by decide +kernel
theorem dX1_heldOfAll_12 : decode cX1_heldOfAll 12 = .ok (.iload_n 2, 1) := by decide +kernel
theorem dX1_heldOfAll_13 : decode cX1_heldOfAll 13 = .ok (.iload 4, 2) := by decide +kernel
theorem dX1_heldOfAll_15 : decode cX1_heldOfAll 15 = .ok (.invokestatic 68, 3) := by decide +kernel
theorem dX1_heldOfAll_18 : decode cX1_heldOfAll 18 = .ok (.ifCond .eq 16, 3) := by decide +kernel
theorem dX1_heldOfAll_21 : decode cX1_heldOfAll 21 = .ok (.iload_n 3, 1) := by decide +kernel
theorem dX1_heldOfAll_22 : decode cX1_heldOfAll 22 = .ok (.aload_n 0, 1) := by decide +kernel
theorem dX1_heldOfAll_23 : decode cX1_heldOfAll 23 = .ok (.getfield 20, 3) := by decide +kernel
theorem dX1_heldOfAll_26 : decode cX1_heldOfAll 26 = .ok (.iload_n 1, 1) := by decide +kernel
theorem dX1_heldOfAll_27 : decode cX1_heldOfAll 27 = .ok (.iload 4, 2) := by decide +kernel
theorem dX1_heldOfAll_29 : decode cX1_heldOfAll 29 = .ok (.invokevirtual 38, 3) := by decide +kernel
theorem dX1_heldOfAll_32 : decode cX1_heldOfAll 32 = .ok (.iadd, 1) := by decide +kernel
theorem dX1_heldOfAll_33 : decode cX1_heldOfAll 33 = .ok (.istore_n 3, 1) := by decide +kernel
theorem dX1_heldOfAll_34 : decode cX1_heldOfAll 34 = .ok (.iinc 4 1, 3) := by decide +kernel
theorem dX1_heldOfAll_37 : decode cX1_heldOfAll 37 = .ok (.goto (-32), 3) := by decide +kernel
theorem dX1_heldOfAll_40 : decode cX1_heldOfAll 40 = .ok (.iload_n 3, 1) := by decide +kernel
theorem dX1_heldOfAll_41 : decode cX1_heldOfAll 41 = .ok (.ireturn, 1) := by decide +kernel
theorem dX1_heldByAll_0 : decode cX1_heldByAll 0 = .ok (.iconst 0, 1) := by decide +kernel
theorem dX1_heldByAll_1 : decode cX1_heldByAll 1 = .ok (.istore_n 1, 1) := by decide +kernel
theorem dX1_heldByAll_2 : decode cX1_heldByAll 2 = .ok (.iconst 0, 1) := by decide +kernel
theorem dX1_heldByAll_3 : decode cX1_heldByAll 3 = .ok (.istore_n 2, 1) := by decide +kernel
theorem dX1_heldByAll_4 : decode cX1_heldByAll 4 = .ok (.iload_n 2, 1) := by decide +kernel
theorem dX1_heldByAll_5 : decode cX1_heldByAll 5 = .ok (.bipush 16, 2) := by decide +kernel
theorem dX1_heldByAll_7 : decode cX1_heldByAll 7 = .ok (.if_icmp .ge 20, 3) := by decide +kernel
theorem dX1_heldByAll_10 : decode cX1_heldByAll 10 = .ok (.iload_n 1, 1) := by decide +kernel
theorem dX1_heldByAll_11 : decode cX1_heldByAll 11 = .ok (.aload_n 0, 1) := by decide +kernel
theorem dX1_heldByAll_12 : decode cX1_heldByAll 12 = .ok (.getfield 20, 3) := by decide +kernel
theorem dX1_heldByAll_15 : decode cX1_heldByAll 15 = .ok (.iload_n 2, 1) := by decide +kernel
theorem dX1_heldByAll_16 : decode cX1_heldByAll 16 = .ok (.invokevirtual 72, 3) := by decide +kernel
theorem dX1_heldByAll_19 : decode cX1_heldByAll 19 = .ok (.iadd, 1) := by decide +kernel
theorem dX1_heldByAll_20 : decode cX1_heldByAll 20 = .ok (.istore_n 1, 1) := by decide +kernel
theorem dX1_heldByAll_21 : decode cX1_heldByAll 21 = .ok (.iinc 2 1, 3) := by decide +kernel
theorem dX1_heldByAll_24 : decode cX1_heldByAll 24 = .ok (.goto (-20), 3) := by decide +kernel
theorem dX1_heldByAll_27 : decode cX1_heldByAll 27 = .ok (.iload_n 1, 1) := by decide +kernel
theorem dX1_heldByAll_28 : decode cX1_heldByAll 28 = .ok (.ireturn, 1) := by decide +kernel
theorem dX2_init_0 : decode cX2_init 0 = .ok (.aload_n 0, 1) := by decide +kernel
theorem dX2_init_1 : decode cX2_init 1 = .ok (.invokespecial 3, 3) := by decide +kernel
theorem dX2_init_4 : decode cX2_init 4 = .ok (.aload_n 0, 1) := by decide +kernel
theorem dX2_init_5 : decode cX2_init 5 = .ok (.bipush 8, 2) := by decide +kernel
theorem dX2_init_7 : decode cX2_init 7 = .ok (.anewarray 9, 3) := by decide +kernel
theorem dX2_init_10 : decode cX2_init 10 = .ok (.putfield 11, 3) := by decide +kernel
theorem dX2_init_13 : decode cX2_init 13 = .ok (.aload_n 0, 1) := by decide +kernel
theorem dX2_init_14 : decode cX2_init 14 = .ok (.iconst 0, 1) := by decide +kernel
theorem dX2_init_15 : decode cX2_init 15 = .ok (.putfield 17, 3) := by decide +kernel
theorem dX2_init_18 : decode cX2_init 18 = .ok (.aload_n 0, 1) := by decide +kernel
theorem dX2_init_19 : decode cX2_init 19 = .ok (.iconst 0, 1) := by decide +kernel
theorem dX2_init_20 : decode cX2_init 20 = .ok (.putfield 21, 3) := by decide +kernel
theorem dX2_init_23 : decode cX2_init 23 = .ok (.iconst 0, 1) := by decide +kernel
theorem dX2_init_24 : decode cX2_init 24 = .ok (.istore_n 1, 1) := by decide +kernel
theorem dX2_init_25 : decode cX2_init 25 = .ok (.iload_n 1, 1) := by decide +kernel
theorem dX2_init_26 : decode cX2_init 26 = .ok (.aload_n 0, 1) := by decide +kernel
theorem dX2_init_27 : decode cX2_init 27 = .ok (.getfield 11, 3) := by decide +kernel
theorem dX2_init_30 : decode cX2_init 30 = .ok (.arraylength, 1) := by decide +kernel
theorem dX2_init_31 : decode cX2_init 31 = .ok (.if_icmp .ge 22, 3) := by decide +kernel
theorem dX2_init_34 : decode cX2_init 34 = .ok (.aload_n 0, 1) := by decide +kernel
theorem dX2_init_35 : decode cX2_init 35 = .ok (.getfield 11, 3) := by decide +kernel
theorem dX2_init_38 : decode cX2_init 38 = .ok (.iload_n 1, 1) := by decide +kernel
theorem dX2_init_39 : decode cX2_init 39 = .ok (.new 9, 3) := by decide +kernel
theorem dX2_init_42 : decode cX2_init 42 = .ok (.dup, 1) := by decide +kernel
theorem dX2_init_43 : decode cX2_init 43 = .ok (.invokespecial 24, 3) := by decide +kernel
theorem dX2_init_46 : decode cX2_init 46 = .ok (.aastore, 1) := by decide +kernel
theorem dX2_init_47 : decode cX2_init 47 = .ok (.iinc 1 1, 3) := by decide +kernel
theorem dX2_init_50 : decode cX2_init 50 = .ok (.goto (-25), 3) := by decide +kernel
theorem dX2_init_53 : decode cX2_init 53 = .ok (.return_, 1) := by decide +kernel
theorem dX2_stateAt_0 : decode cX2_stateAt 0 = .ok (.iload_n 1, 1) := by decide +kernel
theorem dX2_stateAt_1 : decode cX2_stateAt 1 = .ok (.iconst 0, 1) := by decide +kernel
theorem dX2_stateAt_2 : decode cX2_stateAt 2 = .ok (.aload_n 0, 1) := by decide +kernel
theorem dX2_stateAt_3 : decode cX2_stateAt 3 = .ok (.getfield 11, 3) := by decide +kernel
theorem dX2_stateAt_6 : decode cX2_stateAt 6 = .ok (.arraylength, 1) := by decide +kernel
theorem dX2_stateAt_7 : decode cX2_stateAt 7 = .ok (.iconst 1, 1) := by decide +kernel
theorem dX2_stateAt_8 : decode cX2_stateAt 8 = .ok (.isub, 1) := by decide +kernel
theorem dX2_stateAt_9 : decode cX2_stateAt 9 = .ok (.invokestatic 25, 3) := by decide +kernel
theorem dX2_stateAt_12 : decode cX2_stateAt 12 = .ok (.ifCond .eq 12, 3) := by decide +kernel
theorem dX2_stateAt_15 : decode cX2_stateAt 15 = .ok (.aload_n 0, 1) := by decide +kernel
theorem dX2_stateAt_16 : decode cX2_stateAt 16 = .ok (.getfield 11, 3) := by decide +kernel
theorem dX2_stateAt_19 : decode cX2_stateAt 19 = .ok (.iload_n 1, 1) := by decide +kernel
theorem dX2_stateAt_20 : decode cX2_stateAt 20 = .ok (.aaload, 1) := by decide +kernel
theorem dX2_stateAt_21 : decode cX2_stateAt 21 = .ok (.goto 4, 3) := by decide +kernel
theorem dX2_stateAt_24 : decode cX2_stateAt 24 = .ok (.aconst_null, 1) := by decide +kernel
theorem dX2_stateAt_25 : decode cX2_stateAt 25 = .ok (.areturn, 1) := by decide +kernel
theorem dX2_remember_0 : decode cX2_remember 0 = .ok (.aload_n 0, 1) := by decide +kernel
theorem dX2_remember_1 : decode cX2_remember 1 = .ok (.aload_n 0, 1) := by decide +kernel
theorem dX2_remember_2 : decode cX2_remember 2 = .ok (.getfield 17, 3) := by decide +kernel
theorem dX2_remember_5 : decode cX2_remember 5 = .ok (.invokevirtual 29, 3) := by decide +kernel
theorem dX2_remember_8 : decode cX2_remember 8 = .ok (.astore_n 2, 1) := by decide +kernel
theorem dX2_remember_9 : decode cX2_remember 9 = .ok (.aload_n 2, 1) := by decide +kernel
theorem dX2_remember_10 : decode cX2_remember 10 = .ok (.ifnull 8, 3) := by decide +kernel
theorem dX2_remember_13 : decode cX2_remember 13 = .ok (.aload_n 2, 1) := by decide +kernel
theorem dX2_remember_14 : decode cX2_remember 14 = .ok (.aload_n 1, 1) := by decide +kernel
theorem dX2_remember_15 : decode cX2_remember 15 = .ok (.invokevirtual 33, 3) := by decide +kernel
theorem dX2_remember_18 : decode cX2_remember 18 = .ok (.aload_n 0, 1) := by decide +kernel
theorem dX2_remember_19 : decode cX2_remember 19 = .ok (.aload_n 0, 1) := by decide +kernel
theorem dX2_remember_20 : decode cX2_remember 20 = .ok (.getfield 17, 3) := by decide +kernel
theorem dX2_remember_23 : decode cX2_remember 23 = .ok (.iconst 1, 1) := by decide +kernel
theorem dX2_remember_24 : decode cX2_remember 24 = .ok (.iadd, 1) := by decide +kernel
theorem dX2_remember_25 : decode cX2_remember 25 = .ok (.bipush 8, 2) := by decide +kernel
theorem dX2_remember_27 : decode cX2_remember 27 = .ok (.irem, 1) := by decide +kernel
theorem dX2_remember_28 : decode cX2_remember 28 = .ok (.putfield 17, 3) := by decide +kernel
theorem dX2_remember_31 : decode cX2_remember 31 = .ok (.aload_n 0, 1) := by decide +kernel
theorem dX2_remember_32 : decode cX2_remember 32 = .ok (.aload_n 0, 1) := by decide +kernel
theorem dX2_remember_33 : decode cX2_remember 33 = .ok (.getfield 21, 3) := by decide +kernel
theorem dX2_remember_36 : decode cX2_remember 36 = .ok (.iconst 1, 1) := by decide +kernel
theorem dX2_remember_37 : decode cX2_remember 37 = .ok (.iadd, 1) := by decide +kernel
theorem dX2_remember_38 : decode cX2_remember 38 = .ok (.bipush 8, 2) := by decide +kernel
theorem dX2_remember_40 : decode cX2_remember 40 = .ok (.invokestatic 37, 3) := by decide +kernel
theorem dX2_remember_43 : decode cX2_remember 43 = .ok (.putfield 21, 3) := by decide +kernel
theorem dX2_remember_46 : decode cX2_remember 46 = .ok (.return_, 1) := by decide +kernel
theorem dX2_takeBack_0 : decode cX2_takeBack 0 = .ok (.aload_n 0, 1) := by decide +kernel
theorem dX2_takeBack_1 : decode cX2_takeBack 1 = .ok (.aload_n 0, 1) := by decide +kernel
theorem dX2_takeBack_2 : decode cX2_takeBack 2 = .ok (.getfield 17, 3) := by decide +kernel
theorem dX2_takeBack_5 : decode cX2_takeBack 5 = .ok (.bipush 8, 2) := by decide +kernel
theorem dX2_takeBack_7 : decode cX2_takeBack 7 = .ok (.iadd, 1) := by decide +kernel
theorem dX2_takeBack_8 : decode cX2_takeBack 8 = .ok (.iconst 1, 1) := by decide +kernel
theorem dX2_takeBack_9 : decode cX2_takeBack 9 = .ok (.isub, 1) := by decide +kernel
theorem dX2_takeBack_10 : decode cX2_takeBack 10 = .ok (.bipush 8, 2) := by decide +kernel
theorem dX2_takeBack_12 : decode cX2_takeBack 12 = .ok (.irem, 1) := by decide +kernel
theorem dX2_takeBack_13 : decode cX2_takeBack 13 = .ok (.putfield 17, 3) := by decide +kernel
theorem dX2_takeBack_16 : decode cX2_takeBack 16 = .ok (.aload_n 0, 1) := by decide +kernel
theorem dX2_takeBack_17 : decode cX2_takeBack 17 = .ok (.dup, 1) := by decide +kernel
theorem dX2_takeBack_18 : decode cX2_takeBack 18 = .ok (.getfield 21, 3) := by decide +kernel
theorem dX2_takeBack_21 : decode cX2_takeBack 21 = .ok (.iconst 1, 1) := by decide +kernel
theorem dX2_takeBack_22 : decode cX2_takeBack 22 = .ok (.isub, 1) := by decide +kernel
theorem dX2_takeBack_23 : decode cX2_takeBack 23 = .ok (.putfield 21, 3) := by decide +kernel
theorem dX2_takeBack_26 : decode cX2_takeBack 26 = .ok (.aload_n 0, 1) := by decide +kernel
theorem dX2_takeBack_27 : decode cX2_takeBack 27 = .ok (.aload_n 0, 1) := by decide +kernel
theorem dX2_takeBack_28 : decode cX2_takeBack 28 = .ok (.getfield 17, 3) := by decide +kernel
theorem dX2_takeBack_31 : decode cX2_takeBack 31 = .ok (.invokevirtual 29, 3) := by decide +kernel
theorem dX2_takeBack_34 : decode cX2_takeBack 34 = .ok (.astore_n 2, 1) := by decide +kernel
theorem dX2_takeBack_35 : decode cX2_takeBack 35 = .ok (.aload_n 2, 1) := by decide +kernel
theorem dX2_takeBack_36 : decode cX2_takeBack 36 = .ok (.ifnull 8, 3) := by decide +kernel
theorem dX2_takeBack_39 : decode cX2_takeBack 39 = .ok (.aload_n 1, 1) := by decide +kernel
theorem dX2_takeBack_40 : decode cX2_takeBack 40 = .ok (.aload_n 2, 1) := by decide +kernel
theorem dX2_takeBack_41 : decode cX2_takeBack 41 = .ok (.invokevirtual 33, 3) := by decide +kernel
theorem dX2_takeBack_44 : decode cX2_takeBack 44 = .ok (.return_, 1) := by decide +kernel
theorem dX3_init_0 : decode cX3_init 0 = .ok (.aload_n 0, 1) := by decide +kernel
theorem dX3_init_1 : decode cX3_init 1 = .ok (.invokespecial 3, 3) := by decide +kernel
theorem dX3_init_4 : decode cX3_init 4 = .ok (.aload_n 0, 1) := by decide +kernel
theorem dX3_init_5 : decode cX3_init 5 = .ok (.bipush 40, 2) := by decide +kernel
theorem dX3_init_7 : decode cX3_init 7 = .ok (.newarray .char, 2) := by decide +kernel
theorem dX3_init_9 : decode cX3_init 9 = .ok (.putfield 9, 3) := by decide +kernel
theorem dX3_init_12 : decode cX3_init 12 = .ok (.aload_n 0, 1) := by decide +kernel
theorem dX3_init_13 : decode cX3_init 13 = .ok (.new 15, 3) := by decide +kernel
theorem dX3_init_16 : decode cX3_init 16 = .ok (.dup, 1) := by decide +kernel
theorem dX3_init_17 : decode cX3_init 17 = .ok (.iconst 4, 1) := by decide +kernel
theorem dX3_init_18 : decode cX3_init 18 = .ok (.iconst 2, 1) := by decide +kernel
theorem dX3_init_19 : decode cX3_init 19 = .ok (.invokespecial 17, 3) := by decide +kernel
theorem dX3_init_22 : decode cX3_init 22 = .ok (.putfield 20, 3) := by decide +kernel
theorem dX3_init_25 : decode cX3_init 25 = .ok (.aload_n 0, 1) := by decide +kernel
theorem dX3_init_26 : decode cX3_init 26 = .ok (.iconst 0, 1) := by decide +kernel
theorem dX3_init_27 : decode cX3_init 27 = .ok (.putfield 24, 3) := by decide +kernel
theorem dX3_init_30 : decode cX3_init 30 = .ok (.aload_n 0, 1) := by decide +kernel
theorem dX3_init_31 : decode cX3_init 31 = .ok (.iconst 0, 1) := by decide +kernel
theorem dX3_init_32 : decode cX3_init 32 = .ok (.putfield 28, 3) := by decide +kernel
theorem dX3_init_35 : decode cX3_init 35 = .ok (.aload_n 0, 1) := by decide +kernel
theorem dX3_init_36 : decode cX3_init 36 = .ok (.iconst 0, 1) := by decide +kernel
theorem dX3_init_37 : decode cX3_init 37 = .ok (.putfield 31, 3) := by decide +kernel
theorem dX3_init_40 : decode cX3_init 40 = .ok (.aload_n 0, 1) := by decide +kernel
theorem dX3_init_41 : decode cX3_init 41 = .ok (.iconst 1, 1) := by decide +kernel
theorem dX3_init_42 : decode cX3_init 42 = .ok (.putfield 34, 3) := by decide +kernel
theorem dX3_init_45 : decode cX3_init 45 = .ok (.return_, 1) := by decide +kernel
theorem dX3_append_0 : decode cX3_append 0 = .ok (.aload_n 0, 1) := by decide +kernel
theorem dX3_append_1 : decode cX3_append 1 = .ok (.getfield 24, 3) := by decide +kernel
theorem dX3_append_4 : decode cX3_append 4 = .ok (.iconst 0, 1) := by decide +kernel
theorem dX3_append_5 : decode cX3_append 5 = .ok (.aload_n 0, 1) := by decide +kernel
theorem dX3_append_6 : decode cX3_append 6 = .ok (.getfield 9, 3) := by decide +kernel
theorem dX3_append_9 : decode cX3_append 9 = .ok (.arraylength, 1) := by decide +kernel
theorem dX3_append_10 : decode cX3_append 10 = .ok (.iconst 1, 1) := by decide +kernel
theorem dX3_append_11 : decode cX3_append 11 = .ok (.isub, 1) := by decide +kernel
theorem dX3_append_12 : decode cX3_append 12 = .ok (.invokestatic 38, 3) := by decide +kernel
theorem dX3_append_15 : decode cX3_append 15 = .ok (.ifCond .eq 23, 3) := by decide +kernel
theorem dX3_append_18 : decode cX3_append 18 = .ok (.aload_n 0, 1) := by decide +kernel
theorem dX3_append_19 : decode cX3_append 19 = .ok (.getfield 9, 3) := by decide +kernel
theorem dX3_append_22 : decode cX3_append 22 = .ok (.aload_n 0, 1) := by decide +kernel
theorem dX3_append_23 : decode cX3_append 23 = .ok (.getfield 24, 3) := by decide +kernel
theorem dX3_append_26 : decode cX3_append 26 = .ok (.iload_n 1, 1) := by decide +kernel
theorem dX3_append_27 : decode cX3_append 27 = .ok (.castore, 1) := by decide +kernel
theorem dX3_append_28 : decode cX3_append 28 = .ok (.aload_n 0, 1) := by decide +kernel
theorem dX3_append_29 : decode cX3_append 29 = .ok (.dup, 1) := by decide +kernel
theorem dX3_append_30 : decode cX3_append 30 = .ok (.getfield 24, 3) := by decide +kernel
theorem dX3_append_33 : decode cX3_append 33 = .ok (.iconst 1, 1) := by decide +kernel
theorem dX3_append_34 : decode cX3_append 34 = .ok (.iadd, 1) := by decide +kernel
theorem dX3_append_35 : decode cX3_append 35 = .ok (.putfield 24, 3) := by decide +kernel
theorem dX3_append_38 : decode cX3_append 38 = .ok (.aload_n 0, 1) := by decide +kernel
theorem dX3_append_39 : decode cX3_append 39 = .ok (.getfield 24, 3) := by decide +kernel
theorem dX3_append_42 : decode cX3_append 42 = .ok (.ireturn, 1) := by decide +kernel
theorem dX3_lotOf_0 : decode cX3_lotOf 0 = .ok (.aload_n 0, 1) := by decide +kernel
theorem dX3_lotOf_1 : decode cX3_lotOf 1 = .ok (.getfield 20, 3) := by decide +kernel
theorem dX3_lotOf_4 : decode cX3_lotOf 4 = .ok (.iload_n 1, 1) := by decide +kernel
theorem dX3_lotOf_5 : decode cX3_lotOf 5 = .ok (.iconst 0, 1) := by decide +kernel
theorem dX3_lotOf_6 : decode cX3_lotOf 6 = .ok (.invokevirtual 42, 3) := by decide +kernel
theorem dX3_lotOf_9 : decode cX3_lotOf 9 = .ok (.ireturn, 1) := by decide +kernel
theorem dX3_quartersOf_0 : decode cX3_quartersOf 0 = .ok (.aload_n 0, 1) := by decide +kernel
theorem dX3_quartersOf_1 : decode cX3_quartersOf 1 = .ok (.getfield 20, 3) := by decide +kernel
theorem dX3_quartersOf_4 : decode cX3_quartersOf 4 = .ok (.iload_n 1, 1) := by decide +kernel
theorem dX3_quartersOf_5 : decode cX3_quartersOf 5 = .ok (.iconst 1, 1) := by decide +kernel
theorem dX3_quartersOf_6 : decode cX3_quartersOf 6 = .ok (.invokevirtual 42, 3) := by decide +kernel
theorem dX3_quartersOf_9 : decode cX3_quartersOf 9 = .ok (.ireturn, 1) := by decide +kernel
theorem dX3_hasEmptyPart_0 : decode cX3_hasEmptyPart 0 = .ok (.iconst 0, 1) := by decide +kernel
theorem dX3_hasEmptyPart_1 : decode cX3_hasEmptyPart 1 = .ok (.istore_n 1, 1) := by decide +kernel
theorem dX3_hasEmptyPart_2 : decode cX3_hasEmptyPart 2 = .ok (.iload_n 1, 1) := by decide +kernel
theorem dX3_hasEmptyPart_3 : decode cX3_hasEmptyPart 3 = .ok (.aload_n 0, 1) := by decide +kernel
theorem dX3_hasEmptyPart_4 : decode cX3_hasEmptyPart 4 = .ok (.getfield 28, 3) := by decide +kernel
theorem dX3_hasEmptyPart_7 : decode cX3_hasEmptyPart 7 = .ok (.if_icmp .ge 19, 3) := by decide +kernel
theorem dX3_hasEmptyPart_10 : decode cX3_hasEmptyPart 10 = .ok (.aload_n 0, 1) := by decide +kernel
theorem dX3_hasEmptyPart_11 : decode cX3_hasEmptyPart 11 = .ok (.iload_n 1, 1) := by decide +kernel
theorem dX3_hasEmptyPart_12 : decode cX3_hasEmptyPart 12 = .ok (.invokevirtual 46, 3) := by decide +kernel
theorem dX3_hasEmptyPart_15 : decode cX3_hasEmptyPart 15 = .ok (.ifCond .ne 5, 3) := by decide +kernel
theorem dX3_hasEmptyPart_18 : decode cX3_hasEmptyPart 18 = .ok (.iconst 1, 1) := by decide +kernel
theorem dX3_hasEmptyPart_19 : decode cX3_hasEmptyPart 19 = .ok (.ireturn, 1) := by decide +kernel
theorem dX3_hasEmptyPart_20 : decode cX3_hasEmptyPart 20 = .ok (.iinc 1 1, 3) := by decide +kernel
theorem dX3_hasEmptyPart_23 : decode cX3_hasEmptyPart 23 = .ok (.goto (-21), 3) := by decide +kernel
theorem dX3_hasEmptyPart_26 : decode cX3_hasEmptyPart 26 = .ok (.iconst 0, 1) := by decide +kernel
theorem dX3_hasEmptyPart_27 : decode cX3_hasEmptyPart 27 = .ok (.ireturn, 1) := by decide +kernel
theorem dX3_readBlend_0 : decode cX3_readBlend 0 = .ok (.aload_n 0, 1) := by decide +kernel
theorem dX3_readBlend_1 : decode cX3_readBlend 1 = .ok (.iconst 0, 1) := by decide +kernel
theorem dX3_readBlend_2 : decode cX3_readBlend 2 = .ok (.putfield 31, 3) := by decide +kernel
theorem dX3_readBlend_5 : decode cX3_readBlend 5 = .ok (.aload_n 0, 1) := by decide +kernel
theorem dX3_readBlend_6 : decode cX3_readBlend 6 = .ok (.iconst 1, 1) := by decide +kernel
theorem dX3_readBlend_7 : decode cX3_readBlend 7 = .ok (.putfield 34, 3) := by decide +kernel
theorem dX3_readBlend_10 : decode cX3_readBlend 10 = .ok (.iconst 0, 1) := by decide +kernel
theorem dX3_readBlend_11 : decode cX3_readBlend 11 = .ok (.istore_n 1, 1) := by decide +kernel
theorem dX3_readBlend_12 : decode cX3_readBlend 12 = .ok (.iconst 0, 1) := by decide +kernel
theorem dX3_readBlend_13 : decode cX3_readBlend 13 = .ok (.istore_n 2, 1) := by decide +kernel
theorem dX3_readBlend_14 : decode cX3_readBlend 14 = .ok (.iload_n 2, 1) := by decide +kernel
theorem dX3_readBlend_15 : decode cX3_readBlend 15 = .ok (.iconst 4, 1) := by decide +kernel
theorem dX3_readBlend_16 : decode cX3_readBlend 16 = .ok (.if_icmp .ge 62, 3) := by decide +kernel
theorem dX3_readBlend_19 : decode cX3_readBlend 19 = .ok (.aload_n 0, 1) := by decide +kernel
theorem dX3_readBlend_20 : decode cX3_readBlend 20 = .ok (.getfield 34, 3) := by decide +kernel
theorem dX3_readBlend_23 : decode cX3_readBlend 23 = .ok (.ifCond .eq 55, 3) := by decide +kernel
theorem dX3_readBlend_26 : decode cX3_readBlend 26 = .ok (.iload_n 1, 1) := by decide +kernel
theorem dX3_readBlend_27 : decode cX3_readBlend 27 = .ok (.ifCond .ne 51, 3) := by decide +kernel
theorem dX3_readBlend_30 : decode cX3_readBlend 30 = .ok (.aload_n 0, 1) := by decide +kernel
theorem dX3_readBlend_31 : decode cX3_readBlend 31 = .ok (.iload_n 2, 1) := by decide +kernel
theorem dX3_readBlend_32 : decode cX3_readBlend 32 = .ok (.invokevirtual 50, 3) := by decide +kernel
theorem dX3_readBlend_35 : decode cX3_readBlend 35 = .ok (.iload_n 2, 1) := by decide +kernel
theorem dX3_readBlend_36 : decode cX3_readBlend 36 = .ok (.iconst 1, 1) := by decide +kernel
theorem dX3_readBlend_37 : decode cX3_readBlend 37 = .ok (.if_icmp .lt 18, 3) := by decide +kernel
theorem dX3_readBlend_40 : decode cX3_readBlend 40 = .ok (.aload_n 0, 1) := by decide +kernel
theorem dX3_readBlend_41 : decode cX3_readBlend 41 = .ok (.getfield 31, 3) := by decide +kernel
theorem dX3_readBlend_44 : decode cX3_readBlend 44 = .ok (.aload_n 0, 1) := by decide +kernel
theorem dX3_readBlend_45 : decode cX3_readBlend 45 = .ok (.getfield 24, 3) := by decide +kernel
theorem dX3_readBlend_48 : decode cX3_readBlend 48 = .ok (.if_icmp .ne 7, 3) := by decide +kernel
theorem dX3_readBlend_51 : decode cX3_readBlend 51 = .ok (.iconst 1, 1) := by decide +kernel
theorem dX3_readBlend_52 : decode cX3_readBlend 52 = .ok (.goto 4, 3) := by decide +kernel
theorem dX3_readBlend_55 : decode cX3_readBlend 55 = .ok (.iconst 0, 1) := by decide +kernel
theorem dX3_readBlend_56 : decode cX3_readBlend 56 = .ok (.istore_n 1, 1) := by decide +kernel
theorem dX3_readBlend_57 : decode cX3_readBlend 57 = .ok (.iload_n 1, 1) := by decide +kernel
theorem dX3_readBlend_58 : decode cX3_readBlend 58 = .ok (.ifCond .ne 14, 3) := by decide +kernel
theorem dX3_readBlend_61 : decode cX3_readBlend 61 = .ok (.iload_n 2, 1) := by decide +kernel
theorem dX3_readBlend_62 : decode cX3_readBlend 62 = .ok (.iconst 3, 1) := by decide +kernel
theorem dX3_readBlend_63 : decode cX3_readBlend 63 = .ok (.if_icmp .ge 9, 3) := by decide +kernel
theorem dX3_readBlend_66 : decode cX3_readBlend 66 = .ok (.aload_n 0, 1) := by decide +kernel
theorem dX3_readBlend_67 : decode cX3_readBlend 67 = .ok (.bipush 43, 2) := by decide +kernel
theorem dX3_readBlend_69 : decode cX3_readBlend 69 = .ok (.invokevirtual 54, 3) := by decide +kernel
theorem dX3_readBlend_72 : decode cX3_readBlend 72 = .ok (.iinc 2 1, 3) := by decide +kernel
theorem dX3_readBlend_75 : decode cX3_readBlend 75 = .ok (.goto (-61), 3) := by decide +kernel
theorem dX3_readBlend_78 : decode cX3_readBlend 78 = .ok (.aload_n 0, 1) := by decide +kernel
theorem dX3_readBlend_79 : decode cX3_readBlend 79 = .ok (.aload_n 0, 1) := by decide +kernel
theorem dX3_readBlend_80 : decode cX3_readBlend 80 = .ok (.getfield 34, 3) := by decide +kernel
theorem dX3_readBlend_83 : decode cX3_readBlend 83 = .ok (.ifCond .eq 11, 3) := by decide +kernel
theorem dX3_readBlend_86 : decode cX3_readBlend 86 = .ok (.iload_n 1, 1) := by decide +kernel
theorem dX3_readBlend_87 : decode cX3_readBlend 87 = .ok (.ifCond .eq 7, 3) := by decide +kernel
theorem dX3_readBlend_90 : decode cX3_readBlend 90 = .ok (.iconst 1, 1) := by decide +kernel
theorem dX3_readBlend_91 : decode cX3_readBlend 91 = .ok (.goto 4, 3) := by decide +kernel
theorem dX3_readBlend_94 : decode cX3_readBlend 94 = .ok (.iconst 0, 1) := by decide +kernel
theorem dX3_readBlend_95 : decode cX3_readBlend 95 = .ok (.putfield 34, 3) := by decide +kernel
theorem dX3_readBlend_98 : decode cX3_readBlend 98 = .ok (.aload_n 0, 1) := by decide +kernel
theorem dX3_readBlend_99 : decode cX3_readBlend 99 = .ok (.getfield 34, 3) := by decide +kernel
theorem dX3_readBlend_102 : decode cX3_readBlend 102 = .ok (.ireturn, 1) := by decide +kernel
theorem dX3_readPart_0 : decode cX3_readPart 0 = .ok (.aload_n 0, 1) := by decide +kernel
theorem dX3_readPart_1 : decode cX3_readPart 1 = .ok (.getfield 20, 3) := by decide +kernel
theorem dX3_readPart_4 : decode cX3_readPart 4 = .ok (.iload_n 1, 1) := by decide +kernel
theorem dX3_readPart_5 : decode cX3_readPart 5 = .ok (.iconst 0, 1) := by decide +kernel
theorem dX3_readPart_6 : decode cX3_readPart 6 = .ok (.aload_n 0, 1) := by decide +kernel
theorem dX3_readPart_7 : decode cX3_readPart 7 = .ok (.invokevirtual 58, 3) := by decide +kernel
theorem dX3_readPart_10 : decode cX3_readPart 10 = .ok (.invokevirtual 62, 3) := by decide +kernel
theorem dX3_readPart_13 : decode cX3_readPart 13 = .ok (.aload_n 0, 1) := by decide +kernel
theorem dX3_readPart_14 : decode cX3_readPart 14 = .ok (.bipush 58, 2) := by decide +kernel
theorem dX3_readPart_16 : decode cX3_readPart 16 = .ok (.invokevirtual 54, 3) := by decide +kernel
theorem dX3_readPart_19 : decode cX3_readPart 19 = .ok (.aload_n 0, 1) := by decide +kernel
theorem dX3_readPart_20 : decode cX3_readPart 20 = .ok (.getfield 20, 3) := by decide +kernel
theorem dX3_readPart_23 : decode cX3_readPart 23 = .ok (.iload_n 1, 1) := by decide +kernel
theorem dX3_readPart_24 : decode cX3_readPart 24 = .ok (.iconst 1, 1) := by decide +kernel
theorem dX3_readPart_25 : decode cX3_readPart 25 = .ok (.aload_n 0, 1) := by decide +kernel
theorem dX3_readPart_26 : decode cX3_readPart 26 = .ok (.invokevirtual 58, 3) := by decide +kernel
theorem dX3_readPart_29 : decode cX3_readPart 29 = .ok (.invokevirtual 62, 3) := by decide +kernel
theorem dX3_readPart_32 : decode cX3_readPart 32 = .ok (.aload_n 0, 1) := by decide +kernel
theorem dX3_readPart_33 : decode cX3_readPart 33 = .ok (.iload_n 1, 1) := by decide +kernel
theorem dX3_readPart_34 : decode cX3_readPart 34 = .ok (.iconst 1, 1) := by decide +kernel
theorem dX3_readPart_35 : decode cX3_readPart 35 = .ok (.iadd, 1) := by decide +kernel
theorem dX3_readPart_36 : decode cX3_readPart 36 = .ok (.putfield 28, 3) := by decide +kernel
theorem dX3_readPart_39 : decode cX3_readPart 39 = .ok (.return_, 1) := by decide +kernel
theorem dX3_nextSign_0 : decode cX3_nextSign 0 = .ok (.aload_n 0, 1) := by decide +kernel
theorem dX3_nextSign_1 : decode cX3_nextSign 1 = .ok (.getfield 31, 3) := by decide +kernel
theorem dX3_nextSign_4 : decode cX3_nextSign 4 = .ok (.ifCond .lt 38, 3) := by decide +kernel
theorem dX3_nextSign_7 : decode cX3_nextSign 7 = .ok (.aload_n 0, 1) := by decide +kernel
theorem dX3_nextSign_8 : decode cX3_nextSign 8 = .ok (.getfield 31, 3) := by decide +kernel
theorem dX3_nextSign_11 : decode cX3_nextSign 11 = .ok (.aload_n 0, 1) := by decide +kernel
theorem dX3_nextSign_12 : decode cX3_nextSign 12 = .ok (.getfield 24, 3) := by decide +kernel
theorem dX3_nextSign_15 : decode cX3_nextSign 15 = .ok (.if_icmp .ge 27, 3) := by decide +kernel
theorem dX3_nextSign_18 : decode cX3_nextSign 18 = .ok (.aload_n 0, 1) := by decide +kernel
theorem dX3_nextSign_19 : decode cX3_nextSign 19 = .ok (.getfield 31, 3) := by decide +kernel
theorem dX3_nextSign_22 : decode cX3_nextSign 22 = .ok (.aload_n 0, 1) := by decide +kernel
theorem dX3_nextSign_23 : decode cX3_nextSign 23 = .ok (.getfield 9, 3) := by decide +kernel
theorem dX3_nextSign_26 : decode cX3_nextSign 26 = .ok (.arraylength, 1) := by decide +kernel
theorem dX3_nextSign_27 : decode cX3_nextSign 27 = .ok (.if_icmp .ge 15, 3) := by decide +kernel
theorem dX3_nextSign_30 : decode cX3_nextSign 30 = .ok (.aload_n 0, 1) := by decide +kernel
theorem dX3_nextSign_31 : decode cX3_nextSign 31 = .ok (.getfield 9, 3) := by decide +kernel
theorem dX3_nextSign_34 : decode cX3_nextSign 34 = .ok (.aload_n 0, 1) := by decide +kernel
theorem dX3_nextSign_35 : decode cX3_nextSign 35 = .ok (.getfield 31, 3) := by decide +kernel
theorem dX3_nextSign_38 : decode cX3_nextSign 38 = .ok (.caload, 1) := by decide +kernel
theorem dX3_nextSign_39 : decode cX3_nextSign 39 = .ok (.goto 4, 3) := by decide +kernel
theorem dX3_nextSign_42 : decode cX3_nextSign 42 = .ok (.iconst (-1), 1) := by decide +kernel
theorem dX3_nextSign_43 : decode cX3_nextSign 43 = .ok (.ireturn, 1) := by decide +kernel
theorem dX3_hasDigit_0 : decode cX3_hasDigit 0 = .ok (.aload_n 0, 1) := by decide +kernel
theorem dX3_hasDigit_1 : decode cX3_hasDigit 1 = .ok (.invokevirtual 66, 3) := by decide +kernel
theorem dX3_hasDigit_4 : decode cX3_hasDigit 4 = .ok (.bipush 48, 2) := by decide +kernel
theorem dX3_hasDigit_6 : decode cX3_hasDigit 6 = .ok (.bipush 57, 2) := by decide +kernel
theorem dX3_hasDigit_8 : decode cX3_hasDigit 8 = .ok (.invokestatic 38, 3) := by decide +kernel
theorem dX3_hasDigit_11 : decode cX3_hasDigit 11 = .ok (.ireturn, 1) := by decide +kernel
theorem dX3_readSign_0 : decode cX3_readSign 0 = .ok (.aload_n 0, 1) := by decide +kernel
theorem dX3_readSign_1 : decode cX3_readSign 1 = .ok (.getfield 34, 3) := by decide +kernel
theorem dX3_readSign_4 : decode cX3_readSign 4 = .ok (.ifCond .eq 24, 3) := by decide +kernel
theorem dX3_readSign_7 : decode cX3_readSign 7 = .ok (.aload_n 0, 1) := by decide +kernel
theorem dX3_readSign_8 : decode cX3_readSign 8 = .ok (.invokevirtual 66, 3) := by decide +kernel
theorem dX3_readSign_11 : decode cX3_readSign 11 = .ok (.iload_n 1, 1) := by decide +kernel
theorem dX3_readSign_12 : decode cX3_readSign 12 = .ok (.if_icmp .ne 16, 3) := by decide +kernel
theorem dX3_readSign_15 : decode cX3_readSign 15 = .ok (.aload_n 0, 1) := by decide +kernel
theorem dX3_readSign_16 : decode cX3_readSign 16 = .ok (.dup, 1) := by decide +kernel
theorem dX3_readSign_17 : decode cX3_readSign 17 = .ok (.getfield 31, 3) := by decide +kernel
theorem dX3_readSign_20 : decode cX3_readSign 20 = .ok (.iconst 1, 1) := by decide +kernel
theorem dX3_readSign_21 : decode cX3_readSign 21 = .ok (.iadd, 1) := by decide +kernel
theorem dX3_readSign_22 : decode cX3_readSign 22 = .ok (.putfield 31, 3) := by decide +kernel
theorem dX3_readSign_25 : decode cX3_readSign 25 = .ok (.goto 8, 3) := by decide +kernel
theorem dX3_readSign_28 : decode cX3_readSign 28 = .ok (.aload_n 0, 1) := by decide +kernel
theorem dX3_readSign_29 : decode cX3_readSign 29 = .ok (.iconst 0, 1) := by decide +kernel
theorem dX3_readSign_30 : decode cX3_readSign 30 = .ok (.putfield 34, 3) := by decide +kernel
theorem dX3_readSign_33 : decode cX3_readSign 33 = .ok (.return_, 1) := by decide +kernel
theorem dX3_readNumber_0 : decode cX3_readNumber 0 = .ok (.aload_n 0, 1) := by decide +kernel
theorem dX3_readNumber_1 : decode cX3_readNumber 1 = .ok (.aload_n 0, 1) := by decide +kernel
theorem dX3_readNumber_2 : decode cX3_readNumber 2 = .ok (.getfield 34, 3) := by decide +kernel
theorem dX3_readNumber_5 : decode cX3_readNumber 5 = .ok (.ifCond .eq 14, 3) := by decide +kernel
theorem dX3_readNumber_8 : decode cX3_readNumber 8 = .ok (.aload_n 0, 1) := by decide +kernel
theorem dX3_readNumber_9 : decode cX3_readNumber 9 = .ok (.invokevirtual 69, 3) := by decide +kernel
theorem dX3_readNumber_12 : decode cX3_readNumber 12 = .ok (.ifCond .eq 7, 3) := by decide +kernel
theorem dX3_readNumber_15 : decode cX3_readNumber 15 = .ok (.iconst 1, 1) := by decide +kernel
theorem dX3_readNumber_16 : decode cX3_readNumber 16 = .ok (.goto 4, 3) := by decide +kernel
theorem dX3_readNumber_19 : decode cX3_readNumber 19 = .ok (.iconst 0, 1) := by decide +kernel
theorem dX3_readNumber_20 : decode cX3_readNumber 20 = .ok (.putfield 34, 3) := by decide +kernel
theorem dX3_readNumber_23 : decode cX3_readNumber 23 = .ok (.iconst 0, 1) := by decide +kernel
theorem dX3_readNumber_24 : decode cX3_readNumber 24 = .ok (.istore_n 1, 1) := by decide +kernel
theorem dX3_readNumber_25 : decode cX3_readNumber 25 = .ok (.aload_n 0, 1) := by decide +kernel
theorem dX3_readNumber_26 : decode cX3_readNumber 26 = .ok (.getfield 34, 3) := by decide +kernel
theorem dX3_readNumber_29 : decode cX3_readNumber 29 = .ok (.istore_n 2, 1) := by decide +kernel
theorem dX3_readNumber_30 : decode cX3_readNumber 30 = .ok (.iconst 0, 1) := by decide +kernel
theorem dX3_readNumber_31 : decode cX3_readNumber 31 = .ok (.istore_n 3, 1) := by decide +kernel
theorem dX3_readNumber_32 : decode cX3_readNumber 32 = .ok (.iload_n 3, 1) := by decide +kernel
theorem dX3_readNumber_33 : decode cX3_readNumber 33 = .ok (.iconst 4, 1) := by decide +kernel
theorem dX3_readNumber_34 : decode cX3_readNumber 34 = .ok (.if_icmp .ge 53, 3) := by decide +kernel
theorem dX3_readNumber_37 : decode cX3_readNumber 37 = .ok (.iload_n 2, 1) := by decide +kernel
theorem dX3_readNumber_38 : decode cX3_readNumber 38 = .ok (.ifCond .eq 49, 3) := by decide +kernel
theorem dX3_readNumber_41 : decode cX3_readNumber 41 = .ok (.aload_n 0, 1) := by decide +kernel
theorem dX3_readNumber_42 : decode cX3_readNumber 42 = .ok (.invokevirtual 69, 3) := by decide +kernel
theorem dX3_readNumber_45 : decode cX3_readNumber 45 = .ok (.ifCond .eq 42, 3) := by decide +kernel
theorem dX3_readNumber_48 : decode cX3_readNumber 48 = .ok (.iload_n 1, 1) := by decide +kernel
theorem dX3_readNumber_49 : decode cX3_readNumber 49 = .ok (.bipush 10, 2) := by decide +kernel
theorem dX3_readNumber_51 : decode cX3_readNumber 51 = .ok (.imul, 1) := by decide +kernel
theorem dX3_readNumber_52 : decode cX3_readNumber 52 = .ok (.aload_n 0, 1) := by decide +kernel
theorem dX3_readNumber_53 : decode cX3_readNumber 53 = .ok (.invokevirtual 66, 3) := by decide +kernel
theorem dX3_readNumber_56 : decode cX3_readNumber 56 = .ok (.bipush 48, 2) := by decide +kernel
theorem dX3_readNumber_58 : decode cX3_readNumber 58 = .ok (.isub, 1) := by decide +kernel
theorem dX3_readNumber_59 : decode cX3_readNumber 59 = .ok (.iadd, 1) := by decide +kernel
theorem dX3_readNumber_60 : decode cX3_readNumber 60 = .ok (.istore_n 1, 1) := by decide +kernel
theorem dX3_readNumber_61 : decode cX3_readNumber 61 = .ok (.aload_n 0, 1) := by decide +kernel
theorem dX3_readNumber_62 : decode cX3_readNumber 62 = .ok (.dup, 1) := by decide +kernel
theorem dX3_readNumber_63 : decode cX3_readNumber 63 = .ok (.getfield 31, 3) := by decide +kernel
theorem dX3_readNumber_66 : decode cX3_readNumber 66 = .ok (.iconst 1, 1) := by decide +kernel
theorem dX3_readNumber_67 : decode cX3_readNumber 67 = .ok (.iadd, 1) := by decide +kernel
theorem dX3_readNumber_68 : decode cX3_readNumber 68 = .ok (.putfield 31, 3) := by decide +kernel
theorem dX3_readNumber_71 : decode cX3_readNumber 71 = .ok (.iload_n 1, 1) := by decide +kernel
theorem dX3_readNumber_72 : decode cX3_readNumber 72 = .ok (.ifCond .eq 7, 3) := by decide +kernel
theorem dX3_readNumber_75 : decode cX3_readNumber 75 = .ok (.iconst 1, 1) := by decide +kernel
theorem dX3_readNumber_76 : decode cX3_readNumber 76 = .ok (.goto 4, 3) := by decide +kernel
theorem dX3_readNumber_79 : decode cX3_readNumber 79 = .ok (.iconst 0, 1) := by decide +kernel
theorem dX3_readNumber_80 : decode cX3_readNumber 80 = .ok (.istore_n 2, 1) := by decide +kernel
theorem dX3_readNumber_81 : decode cX3_readNumber 81 = .ok (.iinc 3 1, 3) := by decide +kernel
theorem dX3_readNumber_84 : decode cX3_readNumber 84 = .ok (.goto (-52), 3) := by decide +kernel
theorem dX3_readNumber_87 : decode cX3_readNumber 87 = .ok (.iload_n 1, 1) := by decide +kernel
theorem dX3_readNumber_88 : decode cX3_readNumber 88 = .ok (.ireturn, 1) := by decide +kernel
theorem dX4_init_0 : decode cX4_init 0 = .ok (.aload_n 0, 1) := by decide +kernel
theorem dX4_init_1 : decode cX4_init 1 = .ok (.invokespecial 3, 3) := by decide +kernel
theorem dX4_init_4 : decode cX4_init 4 = .ok (.aload_n 0, 1) := by decide +kernel
theorem dX4_init_5 : decode cX4_init 5 = .ok (.new 9, 3) := by decide +kernel
theorem dX4_init_8 : decode cX4_init 8 = .ok (.dup, 1) := by decide +kernel
theorem dX4_init_9 : decode cX4_init 9 = .ok (.bipush 24, 2) := by decide +kernel
theorem dX4_init_11 : decode cX4_init 11 = .ok (.iconst 5, 1) := by decide +kernel
theorem dX4_init_12 : decode cX4_init 12 = .ok (.invokespecial 11, 3) := by decide +kernel
theorem dX4_init_15 : decode cX4_init 15 = .ok (.putfield 14, 3) := by decide +kernel
theorem dX4_init_18 : decode cX4_init 18 = .ok (.aload_n 0, 1) := by decide +kernel
theorem dX4_init_19 : decode cX4_init 19 = .ok (.new 9, 3) := by decide +kernel
theorem dX4_init_22 : decode cX4_init 22 = .ok (.dup, 1) := by decide +kernel
theorem dX4_init_23 : decode cX4_init 23 = .ok (.bipush 24, 2) := by decide +kernel
theorem dX4_init_25 : decode cX4_init 25 = .ok (.iconst 4, 1) := by decide +kernel
theorem dX4_init_26 : decode cX4_init 26 = .ok (.invokespecial 11, 3) := by decide +kernel
theorem dX4_init_29 : decode cX4_init 29 = .ok (.putfield 20, 3) := by decide +kernel
theorem dX4_init_32 : decode cX4_init 32 = .ok (.aload_n 0, 1) := by decide +kernel
theorem dX4_init_33 : decode cX4_init 33 = .ok (.new 9, 3) := by decide +kernel
theorem dX4_init_36 : decode cX4_init 36 = .ok (.dup, 1) := by decide +kernel
theorem dX4_init_37 : decode cX4_init 37 = .ok (.bipush 24, 2) := by decide +kernel
theorem dX4_init_39 : decode cX4_init 39 = .ok (.iconst 4, 1) := by decide +kernel
theorem dX4_init_40 : decode cX4_init 40 = .ok (.invokespecial 11, 3) := by decide +kernel
theorem dX4_init_43 : decode cX4_init 43 = .ok (.putfield 23, 3) := by decide +kernel
theorem dX4_init_46 : decode cX4_init 46 = .ok (.aload_n 0, 1) := by decide +kernel
theorem dX4_init_47 : decode cX4_init 47 = .ok (.new 9, 3) := by decide +kernel
theorem dX4_init_50 : decode cX4_init 50 = .ok (.dup, 1) := by decide +kernel
theorem dX4_init_51 : decode cX4_init 51 = .ok (.bipush 24, 2) := by decide +kernel
theorem dX4_init_53 : decode cX4_init 53 = .ok (.bipush 12, 2) := by decide +kernel
theorem dX4_init_55 : decode cX4_init 55 = .ok (.invokespecial 11, 3) := by decide +kernel
theorem dX4_init_58 : decode cX4_init 58 = .ok (.putfield 26, 3) := by decide +kernel
theorem dX4_init_61 : decode cX4_init 61 = .ok (.aload_n 0, 1) := by decide +kernel
theorem dX4_init_62 : decode cX4_init 62 = .ok (.new 9, 3) := by decide +kernel
theorem dX4_init_65 : decode cX4_init 65 = .ok (.dup, 1) := by decide +kernel
theorem dX4_init_66 : decode cX4_init 66 = .ok (.bipush 12, 2) := by decide +kernel
theorem dX4_init_68 : decode cX4_init 68 = .ok (.iconst 3, 1) := by decide +kernel
theorem dX4_init_69 : decode cX4_init 69 = .ok (.invokespecial 11, 3) := by decide +kernel
theorem dX4_init_72 : decode cX4_init 72 = .ok (.putfield 29, 3) := by decide +kernel
theorem dX4_init_75 : decode cX4_init 75 = .ok (.aload_n 0, 1) := by decide +kernel
theorem dX4_init_76 : decode cX4_init 76 = .ok (.iconst 0, 1) := by decide +kernel
theorem dX4_init_77 : decode cX4_init 77 = .ok (.putfield 32, 3) := by decide +kernel
theorem dX4_init_80 : decode cX4_init 80 = .ok (.aload_n 0, 1) := by decide +kernel
theorem dX4_init_81 : decode cX4_init 81 = .ok (.iconst 0, 1) := by decide +kernel
theorem dX4_init_82 : decode cX4_init 82 = .ok (.putfield 36, 3) := by decide +kernel
theorem dX4_init_85 : decode cX4_init 85 = .ok (.aload_n 0, 1) := by decide +kernel
theorem dX4_init_86 : decode cX4_init 86 = .ok (.iconst 0, 1) := by decide +kernel
theorem dX4_init_87 : decode cX4_init 87 = .ok (.putfield 39, 3) := by decide +kernel
theorem dX4_init_90 : decode cX4_init 90 = .ok (.return_, 1) := by decide +kernel
theorem dX4_copyFrom_0 : decode cX4_copyFrom 0 = .ok (.aload_n 0, 1) := by decide +kernel
theorem dX4_copyFrom_1 : decode cX4_copyFrom 1 = .ok (.getfield 14, 3) := by decide +kernel
theorem dX4_copyFrom_4 : decode cX4_copyFrom 4 = .ok (.aload_n 1, 1) := by decide +kernel
theorem dX4_copyFrom_5 : decode cX4_copyFrom 5 = .ok (.getfield 14, 3) := by decide +kernel
theorem dX4_copyFrom_8 : decode cX4_copyFrom 8 = .ok (.invokevirtual 42, 3) := by decide +kernel
theorem dX4_copyFrom_11 : decode cX4_copyFrom 11 = .ok (.aload_n 0, 1) := by decide +kernel
theorem dX4_copyFrom_12 : decode cX4_copyFrom 12 = .ok (.getfield 20, 3) := by decide +kernel
theorem dX4_copyFrom_15 : decode cX4_copyFrom 15 = .ok (.aload_n 1, 1) := by decide +kernel
theorem dX4_copyFrom_16 : decode cX4_copyFrom 16 = .ok (.getfield 20, 3) := by decide +kernel
theorem dX4_copyFrom_19 : decode cX4_copyFrom 19 = .ok (.invokevirtual 42, 3) := by decide +kernel
theorem dX4_copyFrom_22 : decode cX4_copyFrom 22 = .ok (.aload_n 0, 1) := by decide +kernel
theorem dX4_copyFrom_23 : decode cX4_copyFrom 23 = .ok (.getfield 23, 3) := by decide +kernel
theorem dX4_copyFrom_26 : decode cX4_copyFrom 26 = .ok (.aload_n 1, 1) := by decide +kernel
theorem dX4_copyFrom_27 : decode cX4_copyFrom 27 = .ok (.getfield 23, 3) := by decide +kernel
theorem dX4_copyFrom_30 : decode cX4_copyFrom 30 = .ok (.invokevirtual 42, 3) := by decide +kernel
theorem dX4_copyFrom_33 : decode cX4_copyFrom 33 = .ok (.aload_n 0, 1) := by decide +kernel
theorem dX4_copyFrom_34 : decode cX4_copyFrom 34 = .ok (.getfield 26, 3) := by decide +kernel
theorem dX4_copyFrom_37 : decode cX4_copyFrom 37 = .ok (.aload_n 1, 1) := by decide +kernel
theorem dX4_copyFrom_38 : decode cX4_copyFrom 38 = .ok (.getfield 26, 3) := by decide +kernel
theorem dX4_copyFrom_41 : decode cX4_copyFrom 41 = .ok (.invokevirtual 42, 3) := by decide +kernel
theorem dX4_copyFrom_44 : decode cX4_copyFrom 44 = .ok (.aload_n 0, 1) := by decide +kernel
theorem dX4_copyFrom_45 : decode cX4_copyFrom 45 = .ok (.getfield 29, 3) := by decide +kernel
theorem dX4_copyFrom_48 : decode cX4_copyFrom 48 = .ok (.aload_n 1, 1) := by decide +kernel
theorem dX4_copyFrom_49 : decode cX4_copyFrom 49 = .ok (.getfield 29, 3) := by decide +kernel
theorem dX4_copyFrom_52 : decode cX4_copyFrom 52 = .ok (.invokevirtual 42, 3) := by decide +kernel
theorem dX4_copyFrom_55 : decode cX4_copyFrom 55 = .ok (.aload_n 0, 1) := by decide +kernel
theorem dX4_copyFrom_56 : decode cX4_copyFrom 56 = .ok (.aload_n 1, 1) := by decide +kernel
theorem dX4_copyFrom_57 : decode cX4_copyFrom 57 = .ok (.getfield 32, 3) := by decide +kernel
theorem dX4_copyFrom_60 : decode cX4_copyFrom 60 = .ok (.putfield 32, 3) := by decide +kernel
theorem dX4_copyFrom_63 : decode cX4_copyFrom 63 = .ok (.aload_n 0, 1) := by decide +kernel
theorem dX4_copyFrom_64 : decode cX4_copyFrom 64 = .ok (.aload_n 1, 1) := by decide +kernel
theorem dX4_copyFrom_65 : decode cX4_copyFrom 65 = .ok (.getfield 36, 3) := by decide +kernel
theorem dX4_copyFrom_68 : decode cX4_copyFrom 68 = .ok (.putfield 36, 3) := by decide +kernel
theorem dX4_copyFrom_71 : decode cX4_copyFrom 71 = .ok (.aload_n 0, 1) := by decide +kernel
theorem dX4_copyFrom_72 : decode cX4_copyFrom 72 = .ok (.aload_n 1, 1) := by decide +kernel
theorem dX4_copyFrom_73 : decode cX4_copyFrom 73 = .ok (.getfield 39, 3) := by decide +kernel
theorem dX4_copyFrom_76 : decode cX4_copyFrom 76 = .ok (.putfield 39, 3) := by decide +kernel
theorem dX4_copyFrom_79 : decode cX4_copyFrom 79 = .ok (.return_, 1) := by decide +kernel
theorem dX4_bringIn_0 : decode cX4_bringIn 0 = .ok (.aload_n 0, 1) := by decide +kernel
theorem dX4_bringIn_1 : decode cX4_bringIn 1 = .ok (.getfield 36, 3) := by decide +kernel
theorem dX4_bringIn_4 : decode cX4_bringIn 4 = .ok (.istore 5, 2) := by decide +kernel
theorem dX4_bringIn_6 : decode cX4_bringIn 6 = .ok (.aload_n 0, 1) := by decide +kernel
theorem dX4_bringIn_7 : decode cX4_bringIn 7 = .ok (.getfield 29, 3) := by decide +kernel
theorem dX4_bringIn_10 : decode cX4_bringIn 10 = .ok (.iload 5, 2) := by decide +kernel
theorem dX4_bringIn_12 : decode cX4_bringIn 12 = .ok (.iconst 0, 1) := by decide +kernel
theorem dX4_bringIn_13 : decode cX4_bringIn 13 = .ok (.iload_n 1, 1) := by decide +kernel
theorem dX4_bringIn_14 : decode cX4_bringIn 14 = .ok (.invokevirtual 46, 3) := by decide +kernel
theorem dX4_bringIn_17 : decode cX4_bringIn 17 = .ok (.aload_n 0, 1) := by decide +kernel
theorem dX4_bringIn_18 : decode cX4_bringIn 18 = .ok (.getfield 29, 3) := by decide +kernel
theorem dX4_bringIn_21 : decode cX4_bringIn 21 = .ok (.iload 5, 2) := by decide +kernel
theorem dX4_bringIn_23 : decode cX4_bringIn 23 = .ok (.iconst 1, 1) := by decide +kernel
theorem dX4_bringIn_24 : decode cX4_bringIn 24 = .ok (.iload_n 2, 1) := by decide +kernel
theorem dX4_bringIn_25 : decode cX4_bringIn 25 = .ok (.invokevirtual 46, 3) := by decide +kernel
theorem dX4_bringIn_28 : decode cX4_bringIn 28 = .ok (.aload_n 0, 1) := by decide +kernel
theorem dX4_bringIn_29 : decode cX4_bringIn 29 = .ok (.getfield 29, 3) := by decide +kernel
theorem dX4_bringIn_32 : decode cX4_bringIn 32 = .ok (.iload 5, 2) := by decide +kernel
theorem dX4_bringIn_34 : decode cX4_bringIn 34 = .ok (.iconst 2, 1) := by decide +kernel
theorem dX4_bringIn_35 : decode cX4_bringIn 35 = .ok (.iload_n 3, 1) := by decide +kernel
theorem dX4_bringIn_36 : decode cX4_bringIn 36 = .ok (.invokevirtual 46, 3) := by decide +kernel
theorem dX4_bringIn_39 : decode cX4_bringIn 39 = .ok (.aload_n 0, 1) := by decide +kernel
theorem dX4_bringIn_40 : decode cX4_bringIn 40 = .ok (.dup, 1) := by decide +kernel
theorem dX4_bringIn_41 : decode cX4_bringIn 41 = .ok (.getfield 36, 3) := by decide +kernel
theorem dX4_bringIn_44 : decode cX4_bringIn 44 = .ok (.iconst 1, 1) := by decide +kernel
theorem dX4_bringIn_45 : decode cX4_bringIn 45 = .ok (.iadd, 1) := by decide +kernel
theorem dX4_bringIn_46 : decode cX4_bringIn 46 = .ok (.putfield 36, 3) := by decide +kernel
theorem dX4_bringIn_49 : decode cX4_bringIn 49 = .ok (.aload_n 0, 1) := by decide +kernel
theorem dX4_bringIn_50 : decode cX4_bringIn 50 = .ok (.iload 4, 2) := by decide +kernel
theorem dX4_bringIn_52 : decode cX4_bringIn 52 = .ok (.iconst 0, 1) := by decide +kernel
theorem dX4_bringIn_53 : decode cX4_bringIn 53 = .ok (.iconst 0, 1) := by decide +kernel
theorem dX4_bringIn_54 : decode cX4_bringIn 54 = .ok (.iload 5, 2) := by decide +kernel
theorem dX4_bringIn_56 : decode cX4_bringIn 56 = .ok (.invokevirtual 50, 3) := by decide +kernel
theorem dX4_bringIn_59 : decode cX4_bringIn 59 = .ok (.istore 6, 2) := by decide +kernel
theorem dX4_bringIn_61 : decode cX4_bringIn 61 = .ok (.aload_n 0, 1) := by decide +kernel
theorem dX4_bringIn_62 : decode cX4_bringIn 62 = .ok (.getfield 26, 3) := by decide +kernel
theorem dX4_bringIn_65 : decode cX4_bringIn 65 = .ok (.iload 6, 2) := by decide +kernel
theorem dX4_bringIn_67 : decode cX4_bringIn 67 = .ok (.iload 5, 2) := by decide +kernel
theorem dX4_bringIn_69 : decode cX4_bringIn 69 = .ok (.sipush 1000, 3) := by decide +kernel
theorem dX4_bringIn_72 : decode cX4_bringIn 72 = .ok (.invokevirtual 46, 3) := by decide +kernel
theorem dX4_bringIn_75 : decode cX4_bringIn 75 = .ok (.iload 6, 2) := by decide +kernel
theorem dX4_bringIn_77 : decode cX4_bringIn 77 = .ok (.ireturn, 1) := by decide +kernel
theorem dX4_mix_0 : decode cX4_mix 0 = .ok (.iconst 0, 1) := by decide +kernel
theorem dX4_mix_1 : decode cX4_mix 1 = .ok (.istore_n 3, 1) := by decide +kernel
theorem dX4_mix_2 : decode cX4_mix 2 = .ok (.iconst 0, 1) := by decide +kernel
theorem dX4_mix_3 : decode cX4_mix 3 = .ok (.istore 4, 2) := by decide +kernel
theorem dX4_mix_5 : decode cX4_mix 5 = .ok (.iload 4, 2) := by decide +kernel
theorem dX4_mix_7 : decode cX4_mix 7 = .ok (.aload_n 1, 1) := by decide +kernel
theorem dX4_mix_8 : decode cX4_mix 8 = .ok (.getfield 54, 3) := by decide +kernel
theorem dX4_mix_11 : decode cX4_mix 11 = .ok (.if_icmp .ge 18, 3) := by decide +kernel
theorem dX4_mix_14 : decode cX4_mix 14 = .ok (.iload_n 3, 1) := by decide +kernel
theorem dX4_mix_15 : decode cX4_mix 15 = .ok (.aload_n 1, 1) := by decide +kernel
theorem dX4_mix_16 : decode cX4_mix 16 = .ok (.iload 4, 2) := by decide +kernel
theorem dX4_mix_18 : decode cX4_mix 18 = .ok (.invokevirtual 59, 3) := by decide +kernel
theorem dX4_mix_21 : decode cX4_mix 21 = .ok (.iadd, 1) := by decide +kernel
theorem dX4_mix_22 : decode cX4_mix 22 = .ok (.istore_n 3, 1) := by decide +kernel
theorem dX4_mix_23 : decode cX4_mix 23 = .ok (.iinc 4 1, 3) := by decide +kernel
theorem dX4_mix_26 : decode cX4_mix 26 = .ok (.goto (-21), 3) := by decide +kernel
theorem dX4_mix_29 : decode cX4_mix 29 = .ok (.aload_n 0, 1) := by decide +kernel
theorem dX4_mix_30 : decode cX4_mix 30 = .ok (.iload_n 3, 1) := by decide +kernel
theorem dX4_mix_31 : decode cX4_mix 31 = .ok (.aload_n 1, 1) := by decide +kernel
theorem dX4_mix_32 : decode cX4_mix 32 = .ok (.getfield 54, 3) := by decide +kernel
theorem dX4_mix_35 : decode cX4_mix 35 = .ok (.aload_n 0, 1) := by decide +kernel
theorem dX4_mix_36 : decode cX4_mix 36 = .ok (.aload_n 1, 1) := by decide +kernel
theorem dX4_mix_37 : decode cX4_mix 37 = .ok (.invokevirtual 63, 3) := by decide +kernel
theorem dX4_mix_40 : decode cX4_mix 40 = .ok (.iconst (-1), 1) := by decide +kernel
theorem dX4_mix_41 : decode cX4_mix 41 = .ok (.invokevirtual 50, 3) := by decide +kernel
theorem dX4_mix_44 : decode cX4_mix 44 = .ok (.istore 4, 2) := by decide +kernel
theorem dX4_mix_46 : decode cX4_mix 46 = .ok (.iconst 0, 1) := by decide +kernel
theorem dX4_mix_47 : decode cX4_mix 47 = .ok (.istore 5, 2) := by decide +kernel
theorem dX4_mix_49 : decode cX4_mix 49 = .ok (.iload 5, 2) := by decide +kernel
theorem dX4_mix_51 : decode cX4_mix 51 = .ok (.aload_n 1, 1) := by decide +kernel
theorem dX4_mix_52 : decode cX4_mix 52 = .ok (.getfield 54, 3) := by decide +kernel
theorem dX4_mix_55 : decode cX4_mix 55 = .ok (.if_icmp .ge 59, 3) := by decide +kernel
theorem dX4_mix_58 : decode cX4_mix 58 = .ok (.aload_n 0, 1) := by decide +kernel
theorem dX4_mix_59 : decode cX4_mix 59 = .ok (.getfield 20, 3) := by decide +kernel
theorem dX4_mix_62 : decode cX4_mix 62 = .ok (.iload 4, 2) := by decide +kernel
theorem dX4_mix_64 : decode cX4_mix 64 = .ok (.iload 5, 2) := by decide +kernel
theorem dX4_mix_66 : decode cX4_mix 66 = .ok (.aload_n 1, 1) := by decide +kernel
theorem dX4_mix_67 : decode cX4_mix 67 = .ok (.iload 5, 2) := by decide +kernel
theorem dX4_mix_69 : decode cX4_mix 69 = .ok (.invokevirtual 67, 3) := by decide +kernel
theorem dX4_mix_72 : decode cX4_mix 72 = .ok (.invokevirtual 46, 3) := by decide +kernel
theorem dX4_mix_75 : decode cX4_mix 75 = .ok (.aload_n 0, 1) := by decide +kernel
theorem dX4_mix_76 : decode cX4_mix 76 = .ok (.getfield 23, 3) := by decide +kernel
theorem dX4_mix_79 : decode cX4_mix 79 = .ok (.iload 4, 2) := by decide +kernel
theorem dX4_mix_81 : decode cX4_mix 81 = .ok (.iload 5, 2) := by decide +kernel
theorem dX4_mix_83 : decode cX4_mix 83 = .ok (.aload_n 1, 1) := by decide +kernel
theorem dX4_mix_84 : decode cX4_mix 84 = .ok (.iload 5, 2) := by decide +kernel
theorem dX4_mix_86 : decode cX4_mix 86 = .ok (.invokevirtual 59, 3) := by decide +kernel
theorem dX4_mix_89 : decode cX4_mix 89 = .ok (.invokevirtual 46, 3) := by decide +kernel
theorem dX4_mix_92 : decode cX4_mix 92 = .ok (.aload_n 0, 1) := by decide +kernel
theorem dX4_mix_93 : decode cX4_mix 93 = .ok (.aload_n 1, 1) := by decide +kernel
theorem dX4_mix_94 : decode cX4_mix 94 = .ok (.iload 5, 2) := by decide +kernel
theorem dX4_mix_96 : decode cX4_mix 96 = .ok (.invokevirtual 67, 3) := by decide +kernel
theorem dX4_mix_99 : decode cX4_mix 99 = .ok (.aload_n 1, 1) := by decide +kernel
theorem dX4_mix_100 : decode cX4_mix 100 = .ok (.iload 5, 2) := by decide +kernel
theorem dX4_mix_102 : decode cX4_mix 102 = .ok (.invokevirtual 59, 3) := by decide +kernel
theorem dX4_mix_105 : decode cX4_mix 105 = .ok (.invokevirtual 70, 3) := by decide +kernel
theorem dX4_mix_108 : decode cX4_mix 108 = .ok (.iinc 5 1, 3) := by decide +kernel
theorem dX4_mix_111 : decode cX4_mix 111 = .ok (.goto (-62), 3) := by decide +kernel
theorem dX4_mix_114 : decode cX4_mix 114 = .ok (.aload_n 0, 1) := by decide +kernel
theorem dX4_mix_115 : decode cX4_mix 115 = .ok (.iload 4, 2) := by decide +kernel
theorem dX4_mix_117 : decode cX4_mix 117 = .ok (.iload_n 3, 1) := by decide +kernel
theorem dX4_mix_118 : decode cX4_mix 118 = .ok (.aload_n 2, 1) := by decide +kernel
theorem dX4_mix_119 : decode cX4_mix 119 = .ok (.invokevirtual 73, 3) := by decide +kernel
theorem dX4_mix_122 : decode cX4_mix 122 = .ok (.iload 4, 2) := by decide +kernel
theorem dX4_mix_124 : decode cX4_mix 124 = .ok (.ireturn, 1) := by decide +kernel
theorem dX4_enter_0 : decode cX4_enter 0 = .ok (.aload_n 0, 1) := by decide +kernel
theorem dX4_enter_1 : decode cX4_enter 1 = .ok (.getfield 32, 3) := by decide +kernel
theorem dX4_enter_4 : decode cX4_enter 4 = .ok (.istore 5, 2) := by decide +kernel
theorem dX4_enter_6 : decode cX4_enter 6 = .ok (.aload_n 0, 1) := by decide +kernel
theorem dX4_enter_7 : decode cX4_enter 7 = .ok (.getfield 14, 3) := by decide +kernel
theorem dX4_enter_10 : decode cX4_enter 10 = .ok (.iload 5, 2) := by decide +kernel
theorem dX4_enter_12 : decode cX4_enter 12 = .ok (.iconst 0, 1) := by decide +kernel
theorem dX4_enter_13 : decode cX4_enter 13 = .ok (.iload_n 1, 1) := by decide +kernel
theorem dX4_enter_14 : decode cX4_enter 14 = .ok (.invokevirtual 46, 3) := by decide +kernel
theorem dX4_enter_17 : decode cX4_enter 17 = .ok (.aload_n 0, 1) := by decide +kernel
theorem dX4_enter_18 : decode cX4_enter 18 = .ok (.getfield 14, 3) := by decide +kernel
theorem dX4_enter_21 : decode cX4_enter 21 = .ok (.iload 5, 2) := by decide +kernel
theorem dX4_enter_23 : decode cX4_enter 23 = .ok (.iconst 1, 1) := by decide +kernel
theorem dX4_enter_24 : decode cX4_enter 24 = .ok (.iload_n 1, 1) := by decide +kernel
theorem dX4_enter_25 : decode cX4_enter 25 = .ok (.invokevirtual 46, 3) := by decide +kernel
theorem dX4_enter_28 : decode cX4_enter 28 = .ok (.aload_n 0, 1) := by decide +kernel
theorem dX4_enter_29 : decode cX4_enter 29 = .ok (.getfield 14, 3) := by decide +kernel
theorem dX4_enter_32 : decode cX4_enter 32 = .ok (.iload 5, 2) := by decide +kernel
theorem dX4_enter_34 : decode cX4_enter 34 = .ok (.iconst 2, 1) := by decide +kernel
theorem dX4_enter_35 : decode cX4_enter 35 = .ok (.iload_n 2, 1) := by decide +kernel
theorem dX4_enter_36 : decode cX4_enter 36 = .ok (.invokevirtual 46, 3) := by decide +kernel
theorem dX4_enter_39 : decode cX4_enter 39 = .ok (.aload_n 0, 1) := by decide +kernel
theorem dX4_enter_40 : decode cX4_enter 40 = .ok (.getfield 14, 3) := by decide +kernel
theorem dX4_enter_43 : decode cX4_enter 43 = .ok (.iload 5, 2) := by decide +kernel
theorem dX4_enter_45 : decode cX4_enter 45 = .ok (.iconst 3, 1) := by decide +kernel
theorem dX4_enter_46 : decode cX4_enter 46 = .ok (.iload_n 3, 1) := by decide +kernel
theorem dX4_enter_47 : decode cX4_enter 47 = .ok (.invokevirtual 46, 3) := by decide +kernel
theorem dX4_enter_50 : decode cX4_enter 50 = .ok (.aload_n 0, 1) := by decide +kernel
theorem dX4_enter_51 : decode cX4_enter 51 = .ok (.getfield 14, 3) := by decide +kernel
theorem dX4_enter_54 : decode cX4_enter 54 = .ok (.iload 5, 2) := by decide +kernel
theorem dX4_enter_56 : decode cX4_enter 56 = .ok (.iconst 4, 1) := by decide +kernel
theorem dX4_enter_57 : decode cX4_enter 57 = .ok (.iload 4, 2) := by decide +kernel
theorem dX4_enter_59 : decode cX4_enter 59 = .ok (.invokevirtual 46, 3) := by decide +kernel
theorem dX4_enter_62 : decode cX4_enter 62 = .ok (.aload_n 0, 1) := by decide +kernel
theorem dX4_enter_63 : decode cX4_enter 63 = .ok (.dup, 1) := by decide +kernel
theorem dX4_enter_64 : decode cX4_enter 64 = .ok (.getfield 32, 3) := by decide +kernel
theorem dX4_enter_67 : decode cX4_enter 67 = .ok (.iconst 1, 1) := by decide +kernel
theorem dX4_enter_68 : decode cX4_enter 68 = .ok (.iadd, 1) := by decide +kernel
theorem dX4_enter_69 : decode cX4_enter 69 = .ok (.putfield 32, 3) := by decide +kernel
theorem dX4_enter_72 : decode cX4_enter 72 = .ok (.iload 5, 2) := by decide +kernel
theorem dX4_enter_74 : decode cX4_enter 74 = .ok (.ireturn, 1) := by decide +kernel
theorem dX4_take_0 : decode cX4_take 0 = .ok (.aload_n 0, 1) := by decide +kernel
theorem dX4_take_1 : decode cX4_take 1 = .ok (.getfield 14, 3) := by decide +kernel
theorem dX4_take_4 : decode cX4_take 4 = .ok (.iload_n 1, 1) := by decide +kernel
theorem dX4_take_5 : decode cX4_take 5 = .ok (.iconst 1, 1) := by decide +kernel
theorem dX4_take_6 : decode cX4_take 6 = .ok (.iload_n 2, 1) := by decide +kernel
theorem dX4_take_7 : decode cX4_take 7 = .ok (.ineg, 1) := by decide +kernel
theorem dX4_take_8 : decode cX4_take 8 = .ok (.invokevirtual 77, 3) := by decide +kernel
theorem dX4_take_11 : decode cX4_take 11 = .ok (.return_, 1) := by decide +kernel
theorem dX4_leftIn_0 : decode cX4_leftIn 0 = .ok (.aload_n 0, 1) := by decide +kernel
theorem dX4_leftIn_1 : decode cX4_leftIn 1 = .ok (.getfield 14, 3) := by decide +kernel
theorem dX4_leftIn_4 : decode cX4_leftIn 4 = .ok (.iload_n 1, 1) := by decide +kernel
theorem dX4_leftIn_5 : decode cX4_leftIn 5 = .ok (.iconst 1, 1) := by decide +kernel
theorem dX4_leftIn_6 : decode cX4_leftIn 6 = .ok (.invokevirtual 80, 3) := by decide +kernel
theorem dX4_leftIn_9 : decode cX4_leftIn 9 = .ok (.ireturn, 1) := by decide +kernel
theorem dX4_partsOf_0 : decode cX4_partsOf 0 = .ok (.aload_n 0, 1) := by decide +kernel
theorem dX4_partsOf_1 : decode cX4_partsOf 1 = .ok (.getfield 14, 3) := by decide +kernel
theorem dX4_partsOf_4 : decode cX4_partsOf 4 = .ok (.iload_n 1, 1) := by decide +kernel
theorem dX4_partsOf_5 : decode cX4_partsOf 5 = .ok (.iconst 2, 1) := by decide +kernel
theorem dX4_partsOf_6 : decode cX4_partsOf 6 = .ok (.invokevirtual 80, 3) := by decide +kernel
theorem dX4_partsOf_9 : decode cX4_partsOf 9 = .ok (.ireturn, 1) := by decide +kernel
theorem dX4_refusalOf_0 : decode cX4_refusalOf 0 = .ok (.aload_n 0, 1) := by decide +kernel
theorem dX4_refusalOf_1 : decode cX4_refusalOf 1 = .ok (.aload_n 1, 1) := by decide +kernel
theorem dX4_refusalOf_2 : decode cX4_refusalOf 2 = .ok (.invokevirtual 84, 3) := by decide +kernel
theorem dX4_refusalOf_5 : decode cX4_refusalOf 5 = .ok (.ifCond .eq 5, 3) := by decide +kernel
theorem dX4_refusalOf_8 : decode cX4_refusalOf 8 = .ok (.iconst 1, 1) := by decide +kernel
theorem dX4_refusalOf_9 : decode cX4_refusalOf 9 = .ok (.ireturn, 1) := by decide +kernel
theorem dX4_refusalOf_10 : decode cX4_refusalOf 10 = .ok (.aload_n 0, 1) := by decide +kernel
theorem dX4_refusalOf_11 : decode cX4_refusalOf 11 = .ok (.aload_n 1, 1) := by decide +kernel
theorem dX4_refusalOf_12 : decode cX4_refusalOf 12 = .ok (.invokevirtual 88, 3) := by decide +kernel
theorem dX4_refusalOf_15 : decode cX4_refusalOf 15 = .ok (.ifCond .eq 5, 3) := by decide +kernel
theorem dX4_refusalOf_18 : decode cX4_refusalOf 18 = .ok (.iconst 2, 1) := by decide +kernel
theorem dX4_refusalOf_19 : decode cX4_refusalOf 19 = .ok (.ireturn, 1) := by decide +kernel
theorem dX4_refusalOf_20 : decode cX4_refusalOf 20 = .ok (.aload_n 0, 1) := by decide +kernel
theorem dX4_refusalOf_21 : decode cX4_refusalOf 21 = .ok (.aload_n 1, 1) := by decide +kernel
theorem dX4_refusalOf_22 : decode cX4_refusalOf 22 = .ok (.invokevirtual 63, 3) := by decide +kernel
theorem dX4_refusalOf_25 : decode cX4_refusalOf 25 = .ok (.iconst 4, 1) := by decide +kernel
theorem dX4_refusalOf_26 : decode cX4_refusalOf 26 = .ok (.if_icmp .le 5, 3) := by decide +kernel
theorem dX4_refusalOf_29 : decode cX4_refusalOf 29 = .ok (.iconst 3, 1) := by decide +kernel
theorem dX4_refusalOf_30 : decode cX4_refusalOf 30 = .ok (.ireturn, 1) := by decide +kernel
theorem dX4_refusalOf_31 : decode cX4_refusalOf 31 = .ok (.aload_n 0, 1) := by decide +kernel
theorem dX4_refusalOf_32 : decode cX4_refusalOf 32 = .ok (.getfield 32, 3) := by decide +kernel
theorem dX4_refusalOf_35 : decode cX4_refusalOf 35 = .ok (.bipush 24, 2) := by decide +kernel
theorem dX4_refusalOf_37 : decode cX4_refusalOf 37 = .ok (.if_icmp .lt 7, 3) := by decide +kernel
theorem dX4_refusalOf_40 : decode cX4_refusalOf 40 = .ok (.iconst 4, 1) := by decide +kernel
theorem dX4_refusalOf_41 : decode cX4_refusalOf 41 = .ok (.goto 4, 3) := by decide +kernel
theorem dX4_refusalOf_44 : decode cX4_refusalOf 44 = .ok (.iconst 0, 1) := by decide +kernel
theorem dX4_refusalOf_45 : decode cX4_refusalOf 45 = .ok (.ireturn, 1) := by decide +kernel
theorem dX4_hasWrongParts_0 : decode cX4_hasWrongParts 0 = .ok (.iconst 0, 1) := by decide +kernel
theorem dX4_hasWrongParts_1 : decode cX4_hasWrongParts 1 = .ok (.istore_n 2, 1) := by decide +kernel
theorem dX4_hasWrongParts_2 : decode cX4_hasWrongParts 2 = .ok (.iload_n 2, 1) := by decide +kernel
theorem dX4_hasWrongParts_3 : decode cX4_hasWrongParts 3 = .ok (.aload_n 1, 1) := by decide +kernel
theorem dX4_hasWrongParts_4 : decode cX4_hasWrongParts 4 = .ok (.getfield 54, 3) := by decide +kernel
theorem dX4_hasWrongParts_7 : decode cX4_hasWrongParts 7 = .ok (.if_icmp .ge 51, 3) := by decide +kernel
theorem dX4_hasWrongParts_10 : decode cX4_hasWrongParts 10 = .ok (.aload_n 1, 1) := by decide +kernel
theorem dX4_hasWrongParts_11 : decode cX4_hasWrongParts 11 = .ok (.iload_n 2, 1) := by decide +kernel
theorem dX4_hasWrongParts_12 : decode cX4_hasWrongParts 12 = .ok (.invokevirtual 67, 3) := by decide +kernel
theorem dX4_hasWrongParts_15 : decode cX4_hasWrongParts 15 = .ok (.aload_n 0, 1) := by decide +kernel
theorem dX4_hasWrongParts_16 : decode cX4_hasWrongParts 16 = .ok (.getfield 32, 3) := by decide +kernel
theorem dX4_hasWrongParts_19 : decode cX4_hasWrongParts 19 = .ok (.if_icmp .lt 5, 3) := by decide +kernel
theorem dX4_hasWrongParts_22 : decode cX4_hasWrongParts 22 = .ok (.iconst 1, 1) := by decide +kernel
theorem dX4_hasWrongParts_23 : decode cX4_hasWrongParts 23 = .ok (.ireturn, 1) := by decide +kernel
theorem dX4_hasWrongParts_24 : decode cX4_hasWrongParts 24 = .ok (.iconst 0, 1) := by decide +kernel
theorem dX4_hasWrongParts_25 : decode cX4_hasWrongParts 25 = .ok (.istore_n 3, 1) := by decide +kernel
theorem dX4_hasWrongParts_26 : decode cX4_hasWrongParts 26 = .ok (.iload_n 3, 1) := by decide +kernel
theorem dX4_hasWrongParts_27 : decode cX4_hasWrongParts 27 = .ok (.iload_n 2, 1) := by decide +kernel
theorem dX4_hasWrongParts_28 : decode cX4_hasWrongParts 28 = .ok (.if_icmp .ge 24, 3) := by decide +kernel
theorem dX4_hasWrongParts_31 : decode cX4_hasWrongParts 31 = .ok (.aload_n 1, 1) := by decide +kernel
theorem dX4_hasWrongParts_32 : decode cX4_hasWrongParts 32 = .ok (.iload_n 3, 1) := by decide +kernel
theorem dX4_hasWrongParts_33 : decode cX4_hasWrongParts 33 = .ok (.invokevirtual 67, 3) := by decide +kernel
theorem dX4_hasWrongParts_36 : decode cX4_hasWrongParts 36 = .ok (.aload_n 1, 1) := by decide +kernel
theorem dX4_hasWrongParts_37 : decode cX4_hasWrongParts 37 = .ok (.iload_n 2, 1) := by decide +kernel
theorem dX4_hasWrongParts_38 : decode cX4_hasWrongParts 38 = .ok (.invokevirtual 67, 3) := by decide +kernel
theorem dX4_hasWrongParts_41 : decode cX4_hasWrongParts 41 = .ok (.if_icmp .ne 5, 3) := by decide +kernel
theorem dX4_hasWrongParts_44 : decode cX4_hasWrongParts 44 = .ok (.iconst 1, 1) := by decide +kernel
theorem dX4_hasWrongParts_45 : decode cX4_hasWrongParts 45 = .ok (.ireturn, 1) := by decide +kernel
theorem dX4_hasWrongParts_46 : decode cX4_hasWrongParts 46 = .ok (.iinc 3 1, 3) := by decide +kernel
theorem dX4_hasWrongParts_49 : decode cX4_hasWrongParts 49 = .ok (.goto (-23), 3) := by decide +kernel
theorem dX4_hasWrongParts_52 : decode cX4_hasWrongParts 52 = .ok (.iinc 2 1, 3) := by decide +kernel
theorem dX4_hasWrongParts_55 : decode cX4_hasWrongParts 55 = .ok (.goto (-53), 3) := by decide +kernel
theorem dX4_hasWrongParts_58 : decode cX4_hasWrongParts 58 = .ok (.iconst 0, 1) := by decide +kernel
theorem dX4_hasWrongParts_59 : decode cX4_hasWrongParts 59 = .ok (.ireturn, 1) := by decide +kernel
theorem dX4_hasTooGreatPart_0 : decode cX4_hasTooGreatPart 0 = .ok (.iconst 0, 1) := by decide +kernel
theorem dX4_hasTooGreatPart_1 : decode cX4_hasTooGreatPart 1 = .ok (.istore_n 2, 1) := by decide +kernel
theorem dX4_hasTooGreatPart_2 : decode cX4_hasTooGreatPart 2 = .ok (.iload_n 2, 1) := by decide +kernel
theorem dX4_hasTooGreatPart_3 : decode cX4_hasTooGreatPart 3 = .ok (.aload_n 1, 1) := by decide +kernel
theorem dX4_hasTooGreatPart_4 : decode cX4_hasTooGreatPart 4 = .ok (.getfield 54, 3) := by decide +kernel
theorem dX4_hasTooGreatPart_7 : decode cX4_hasTooGreatPart 7 = .ok (.if_icmp .ge 28, 3) := by decide +kernel
theorem dX4_hasTooGreatPart_10 : decode cX4_hasTooGreatPart 10 = .ok (.aload_n 1, 1) := by decide +kernel
theorem dX4_hasTooGreatPart_11 : decode cX4_hasTooGreatPart 11 = .ok (.iload_n 2, 1) := by decide +kernel
theorem dX4_hasTooGreatPart_12 : decode cX4_hasTooGreatPart 12 = .ok (.invokevirtual 59, 3) := by decide +kernel
theorem dX4_hasTooGreatPart_15 : decode cX4_hasTooGreatPart 15 = .ok (.aload_n 0, 1) := by decide +kernel
theorem dX4_hasTooGreatPart_16 : decode cX4_hasTooGreatPart 16 = .ok (.aload_n 1, 1) := by decide +kernel
theorem dX4_hasTooGreatPart_17 : decode cX4_hasTooGreatPart 17 = .ok (.iload_n 2, 1) := by decide +kernel
theorem dX4_hasTooGreatPart_18 : decode cX4_hasTooGreatPart 18 = .ok (.invokevirtual 67, 3) := by decide +kernel
theorem dX4_hasTooGreatPart_21 : decode cX4_hasTooGreatPart 21 = .ok (.invokevirtual 91, 3) := by decide +kernel
theorem dX4_hasTooGreatPart_24 : decode cX4_hasTooGreatPart 24 = .ok (.if_icmp .le 5, 3) := by decide +kernel
theorem dX4_hasTooGreatPart_27 : decode cX4_hasTooGreatPart 27 = .ok (.iconst 1, 1) := by decide +kernel
theorem dX4_hasTooGreatPart_28 : decode cX4_hasTooGreatPart 28 = .ok (.ireturn, 1) := by decide +kernel
theorem dX4_hasTooGreatPart_29 : decode cX4_hasTooGreatPart 29 = .ok (.iinc 2 1, 3) := by decide +kernel
theorem dX4_hasTooGreatPart_32 : decode cX4_hasTooGreatPart 32 = .ok (.goto (-30), 3) := by decide +kernel
theorem dX4_hasTooGreatPart_35 : decode cX4_hasTooGreatPart 35 = .ok (.iconst 0, 1) := by decide +kernel
theorem dX4_hasTooGreatPart_36 : decode cX4_hasTooGreatPart 36 = .ok (.ireturn, 1) := by decide +kernel
theorem dX4_generationOf_0 : decode cX4_generationOf 0 = .ok (.iconst 0, 1) := by decide +kernel
theorem dX4_generationOf_1 : decode cX4_generationOf 1 = .ok (.istore_n 2, 1) := by decide +kernel
theorem dX4_generationOf_2 : decode cX4_generationOf 2 = .ok (.iconst 0, 1) := by decide +kernel
theorem dX4_generationOf_3 : decode cX4_generationOf 3 = .ok (.istore_n 3, 1) := by decide +kernel
theorem dX4_generationOf_4 : decode cX4_generationOf 4 = .ok (.iload_n 3, 1) := by decide +kernel
theorem dX4_generationOf_5 : decode cX4_generationOf 5 = .ok (.aload_n 1, 1) := by decide +kernel
theorem dX4_generationOf_6 : decode cX4_generationOf 6 = .ok (.getfield 54, 3) := by decide +kernel
theorem dX4_generationOf_9 : decode cX4_generationOf 9 = .ok (.if_icmp .ge 27, 3) := by decide +kernel
theorem dX4_generationOf_12 : decode cX4_generationOf 12 = .ok (.iload_n 2, 1) := by decide +kernel
theorem dX4_generationOf_13 : decode cX4_generationOf 13 = .ok (.aload_n 0, 1) := by decide +kernel
theorem dX4_generationOf_14 : decode cX4_generationOf 14 = .ok (.getfield 14, 3) := by decide +kernel
theorem dX4_generationOf_17 : decode cX4_generationOf 17 = .ok (.aload_n 1, 1) := by decide +kernel
theorem dX4_generationOf_18 : decode cX4_generationOf 18 = .ok (.iload_n 3, 1) := by decide +kernel
theorem dX4_generationOf_19 : decode cX4_generationOf 19 = .ok (.invokevirtual 67, 3) := by decide +kernel
theorem dX4_generationOf_22 : decode cX4_generationOf 22 = .ok (.iconst 3, 1) := by decide +kernel
theorem dX4_generationOf_23 : decode cX4_generationOf 23 = .ok (.invokevirtual 80, 3) := by decide +kernel
theorem dX4_generationOf_26 : decode cX4_generationOf 26 = .ok (.invokestatic 94, 3) := by decide +kernel
theorem dX4_generationOf_29 : decode cX4_generationOf 29 = .ok (.istore_n 2, 1) := by decide +kernel
theorem dX4_generationOf_30 : decode cX4_generationOf 30 = .ok (.iinc 3 1, 3) := by decide +kernel
theorem dX4_generationOf_33 : decode cX4_generationOf 33 = .ok (.goto (-29), 3) := by decide +kernel
theorem dX4_generationOf_36 : decode cX4_generationOf 36 = .ok (.iload_n 2, 1) := by decide +kernel
theorem dX4_generationOf_37 : decode cX4_generationOf 37 = .ok (.iconst 1, 1) := by decide +kernel
theorem dX4_generationOf_38 : decode cX4_generationOf 38 = .ok (.iadd, 1) := by decide +kernel
theorem dX4_generationOf_39 : decode cX4_generationOf 39 = .ok (.ireturn, 1) := by decide +kernel
theorem dX4_mixShares_0 : decode cX4_mixShares 0 = .ok (.iload_n 2, 1) := by decide +kernel
theorem dX4_mixShares_1 : decode cX4_mixShares 1 = .ok (.ifCond .gt 4, 3) := by decide +kernel
theorem dX4_mixShares_4 : decode cX4_mixShares 4 = .ok (.return_, 1) := by decide +kernel
theorem dX4_mixShares_5 : decode cX4_mixShares 5 = .ok (.sipush 1000, 3) := by decide +kernel
theorem dX4_mixShares_8 : decode cX4_mixShares 8 = .ok (.istore 4, 2) := by decide +kernel
theorem dX4_mixShares_10 : decode cX4_mixShares 10 = .ok (.iconst 0, 1) := by decide +kernel
theorem dX4_mixShares_11 : decode cX4_mixShares 11 = .ok (.istore 5, 2) := by decide +kernel
theorem dX4_mixShares_13 : decode cX4_mixShares 13 = .ok (.iload 5, 2) := by decide +kernel
theorem dX4_mixShares_15 : decode cX4_mixShares 15 = .ok (.bipush 12, 2) := by decide +kernel
theorem dX4_mixShares_17 : decode cX4_mixShares 17 = .ok (.if_icmp .ge 52, 3) := by decide +kernel
theorem dX4_mixShares_20 : decode cX4_mixShares 20 = .ok (.aload_n 0, 1) := by decide +kernel
theorem dX4_mixShares_21 : decode cX4_mixShares 21 = .ok (.iload_n 1, 1) := by decide +kernel
theorem dX4_mixShares_22 : decode cX4_mixShares 22 = .ok (.iload 5, 2) := by decide +kernel
theorem dX4_mixShares_24 : decode cX4_mixShares 24 = .ok (.invokevirtual 99, 3) := by decide +kernel
theorem dX4_mixShares_27 : decode cX4_mixShares 27 = .ok (.istore 6, 2) := by decide +kernel
theorem dX4_mixShares_29 : decode cX4_mixShares 29 = .ok (.aload_n 0, 1) := by decide +kernel
theorem dX4_mixShares_30 : decode cX4_mixShares 30 = .ok (.getfield 26, 3) := by decide +kernel
theorem dX4_mixShares_33 : decode cX4_mixShares 33 = .ok (.iload_n 1, 1) := by decide +kernel
theorem dX4_mixShares_34 : decode cX4_mixShares 34 = .ok (.iload 5, 2) := by decide +kernel
theorem dX4_mixShares_36 : decode cX4_mixShares 36 = .ok (.iload 6, 2) := by decide +kernel
theorem dX4_mixShares_38 : decode cX4_mixShares 38 = .ok (.iload_n 2, 1) := by decide +kernel
theorem dX4_mixShares_39 : decode cX4_mixShares 39 = .ok (.idiv, 1) := by decide +kernel
theorem dX4_mixShares_40 : decode cX4_mixShares 40 = .ok (.invokevirtual 46, 3) := by decide +kernel
theorem dX4_mixShares_43 : decode cX4_mixShares 43 = .ok (.aload_n 3, 1) := by decide +kernel
theorem dX4_mixShares_44 : decode cX4_mixShares 44 = .ok (.iconst 0, 1) := by decide +kernel
theorem dX4_mixShares_45 : decode cX4_mixShares 45 = .ok (.iload 5, 2) := by decide +kernel
theorem dX4_mixShares_47 : decode cX4_mixShares 47 = .ok (.iload 6, 2) := by decide +kernel
theorem dX4_mixShares_49 : decode cX4_mixShares 49 = .ok (.iload_n 2, 1) := by decide +kernel
theorem dX4_mixShares_50 : decode cX4_mixShares 50 = .ok (.irem, 1) := by decide +kernel
theorem dX4_mixShares_51 : decode cX4_mixShares 51 = .ok (.invokevirtual 46, 3) := by decide +kernel
theorem dX4_mixShares_54 : decode cX4_mixShares 54 = .ok (.iload 4, 2) := by decide +kernel
theorem dX4_mixShares_56 : decode cX4_mixShares 56 = .ok (.iload 6, 2) := by decide +kernel
theorem dX4_mixShares_58 : decode cX4_mixShares 58 = .ok (.iload_n 2, 1) := by decide +kernel
theorem dX4_mixShares_59 : decode cX4_mixShares 59 = .ok (.idiv, 1) := by decide +kernel
theorem dX4_mixShares_60 : decode cX4_mixShares 60 = .ok (.isub, 1) := by decide +kernel
theorem dX4_mixShares_61 : decode cX4_mixShares 61 = .ok (.istore 4, 2) := by decide +kernel
theorem dX4_mixShares_63 : decode cX4_mixShares 63 = .ok (.iinc 5 1, 3) := by decide +kernel
theorem dX4_mixShares_66 : decode cX4_mixShares 66 = .ok (.goto (-53), 3) := by decide +kernel
theorem dX4_mixShares_69 : decode cX4_mixShares 69 = .ok (.iconst 0, 1) := by decide +kernel
theorem dX4_mixShares_70 : decode cX4_mixShares 70 = .ok (.istore 5, 2) := by decide +kernel
theorem dX4_mixShares_72 : decode cX4_mixShares 72 = .ok (.iload 5, 2) := by decide +kernel
theorem dX4_mixShares_74 : decode cX4_mixShares 74 = .ok (.bipush 12, 2) := by decide +kernel
theorem dX4_mixShares_76 : decode cX4_mixShares 76 = .ok (.if_icmp .ge 32, 3) := by decide +kernel
theorem dX4_mixShares_79 : decode cX4_mixShares 79 = .ok (.aload_n 3, 1) := by decide +kernel
theorem dX4_mixShares_80 : decode cX4_mixShares 80 = .ok (.iconst 0, 1) := by decide +kernel
theorem dX4_mixShares_81 : decode cX4_mixShares 81 = .ok (.iload 5, 2) := by decide +kernel
theorem dX4_mixShares_83 : decode cX4_mixShares 83 = .ok (.invokevirtual 102, 3) := by decide +kernel
theorem dX4_mixShares_86 : decode cX4_mixShares 86 = .ok (.iload 4, 2) := by decide +kernel
theorem dX4_mixShares_88 : decode cX4_mixShares 88 = .ok (.if_icmp .ge 14, 3) := by decide +kernel
theorem dX4_mixShares_91 : decode cX4_mixShares 91 = .ok (.aload_n 0, 1) := by decide +kernel
theorem dX4_mixShares_92 : decode cX4_mixShares 92 = .ok (.getfield 26, 3) := by decide +kernel
theorem dX4_mixShares_95 : decode cX4_mixShares 95 = .ok (.iload_n 1, 1) := by decide +kernel
theorem dX4_mixShares_96 : decode cX4_mixShares 96 = .ok (.iload 5, 2) := by decide +kernel
theorem dX4_mixShares_98 : decode cX4_mixShares 98 = .ok (.iconst 1, 1) := by decide +kernel
theorem dX4_mixShares_99 : decode cX4_mixShares 99 = .ok (.invokevirtual 77, 3) := by decide +kernel
theorem dX4_mixShares_102 : decode cX4_mixShares 102 = .ok (.iinc 5 1, 3) := by decide +kernel
theorem dX4_mixShares_105 : decode cX4_mixShares 105 = .ok (.goto (-33), 3) := by decide +kernel
theorem dX4_mixShares_108 : decode cX4_mixShares 108 = .ok (.return_, 1) := by decide +kernel
theorem dX4_partsTimesShares_0 : decode cX4_partsTimesShares 0 = .ok (.iconst 0, 1) := by decide +kernel
theorem dX4_partsTimesShares_1 : decode cX4_partsTimesShares 1 = .ok (.istore_n 3, 1) := by decide +kernel
theorem dX4_partsTimesShares_2 : decode cX4_partsTimesShares 2 = .ok (.iconst 0, 1) := by decide +kernel
theorem dX4_partsTimesShares_3 : decode cX4_partsTimesShares 3 = .ok (.istore 4, 2) := by decide +kernel
theorem dX4_partsTimesShares_5 : decode cX4_partsTimesShares 5 = .ok (.iload 4, 2) := by decide +kernel
theorem dX4_partsTimesShares_7 : decode cX4_partsTimesShares 7 = .ok (.aload_n 0, 1) := by decide +kernel
theorem dX4_partsTimesShares_8 : decode cX4_partsTimesShares 8 = .ok (.iload_n 1, 1) := by decide +kernel
theorem dX4_partsTimesShares_9 : decode cX4_partsTimesShares 9 = .ok (.invokevirtual 105, 3) := by decide +kernel
theorem dX4_partsTimesShares_12 : decode cX4_partsTimesShares 12 = .ok (.if_icmp .ge 41, 3) := by decide +kernel
theorem dX4_partsTimesShares_15 : decode cX4_partsTimesShares 15 = .ok (.iload_n 3, 1) := by decide +kernel
theorem dX4_partsTimesShares_16 : decode cX4_partsTimesShares 16 = .ok (.aload_n 0, 1) := by decide +kernel
theorem dX4_partsTimesShares_17 : decode cX4_partsTimesShares 17 = .ok (.getfield 23, 3) := by decide +kernel
theorem dX4_partsTimesShares_20 : decode cX4_partsTimesShares 20 = .ok (.iload_n 1, 1) := by decide +kernel
theorem dX4_partsTimesShares_21 : decode cX4_partsTimesShares 21 = .ok (.iload 4, 2) := by decide +kernel
theorem dX4_partsTimesShares_23 : decode cX4_partsTimesShares 23 = .ok (.invokevirtual 80, 3) := by decide +kernel
theorem dX4_partsTimesShares_26 : decode cX4_partsTimesShares 26 = .ok (.aload_n 0, 1) := by decide +kernel
theorem dX4_partsTimesShares_27 : decode cX4_partsTimesShares 27 = .ok (.getfield 26, 3) := by decide +kernel
theorem dX4_partsTimesShares_30 : decode cX4_partsTimesShares 30 = .ok (.aload_n 0, 1) := by decide +kernel
theorem dX4_partsTimesShares_31 : decode cX4_partsTimesShares 31 = .ok (.getfield 20, 3) := by decide +kernel
theorem dX4_partsTimesShares_34 : decode cX4_partsTimesShares 34 = .ok (.iload_n 1, 1) := by decide +kernel
theorem dX4_partsTimesShares_35 : decode cX4_partsTimesShares 35 = .ok (.iload 4, 2) := by decide +kernel
theorem dX4_partsTimesShares_37 : decode cX4_partsTimesShares 37 = .ok (.invokevirtual 80, 3) := by decide +kernel
theorem dX4_partsTimesShares_40 : decode cX4_partsTimesShares 40 = .ok (.iload_n 2, 1) := by decide +kernel
theorem dX4_partsTimesShares_41 : decode cX4_partsTimesShares 41 = .ok (.invokevirtual 80, 3) := by decide +kernel
theorem dX4_partsTimesShares_44 : decode cX4_partsTimesShares 44 = .ok (.imul, 1) := by decide +kernel
theorem dX4_partsTimesShares_45 : decode cX4_partsTimesShares 45 = .ok (.iadd, 1) := by decide +kernel
theorem dX4_partsTimesShares_46 : decode cX4_partsTimesShares 46 = .ok (.istore_n 3, 1) := by decide +kernel
theorem dX4_partsTimesShares_47 : decode cX4_partsTimesShares 47 = .ok (.iinc 4 1, 3) := by decide +kernel
theorem dX4_partsTimesShares_50 : decode cX4_partsTimesShares 50 = .ok (.goto (-45), 3) := by decide +kernel
theorem dX4_partsTimesShares_53 : decode cX4_partsTimesShares 53 = .ok (.iload_n 3, 1) := by decide +kernel
theorem dX4_partsTimesShares_54 : decode cX4_partsTimesShares 54 = .ok (.ireturn, 1) := by decide +kernel
theorem dX4_numbersBy_0 : decode cX4_numbersBy 0 = .ok (.iload_n 1, 1) := by decide +kernel
theorem dX4_numbersBy_1 : decode cX4_numbersBy 1 = .ok (.tableswitch 34 1 3 #[27, 30, 32], 27) := by decide +kernel
theorem dX4_numbersBy_28 : decode cX4_numbersBy 28 = .ok (.bipush 100, 2) := by decide +kernel
theorem dX4_numbersBy_30 : decode cX4_numbersBy 30 = .ok (.ireturn, 1) := by decide +kernel
theorem dX4_numbersBy_31 : decode cX4_numbersBy 31 = .ok (.iconst 5, 1) := by decide +kernel
theorem dX4_numbersBy_32 : decode cX4_numbersBy 32 = .ok (.ireturn, 1) := by decide +kernel
theorem dX4_numbersBy_33 : decode cX4_numbersBy 33 = .ok (.iconst 4, 1) := by decide +kernel
theorem dX4_numbersBy_34 : decode cX4_numbersBy 34 = .ok (.ireturn, 1) := by decide +kernel
theorem dX4_numbersBy_35 : decode cX4_numbersBy 35 = .ok (.aload_n 0, 1) := by decide +kernel
theorem dX4_numbersBy_36 : decode cX4_numbersBy 36 = .ok (.getfield 36, 3) := by decide +kernel
theorem dX4_numbersBy_39 : decode cX4_numbersBy 39 = .ok (.ireturn, 1) := by decide +kernel
theorem dX4_shareBy_0 : decode cX4_shareBy 0 = .ok (.iload_n 2, 1) := by decide +kernel
theorem dX4_shareBy_1 : decode cX4_shareBy 1 = .ok (.ifCond .ne 13, 3) := by decide +kernel
theorem dX4_shareBy_4 : decode cX4_shareBy 4 = .ok (.aload_n 0, 1) := by decide +kernel
theorem dX4_shareBy_5 : decode cX4_shareBy 5 = .ok (.getfield 26, 3) := by decide +kernel
theorem dX4_shareBy_8 : decode cX4_shareBy 8 = .ok (.iload_n 1, 1) := by decide +kernel
theorem dX4_shareBy_9 : decode cX4_shareBy 9 = .ok (.iload_n 3, 1) := by decide +kernel
theorem dX4_shareBy_10 : decode cX4_shareBy 10 = .ok (.invokevirtual 80, 3) := by decide +kernel
theorem dX4_shareBy_13 : decode cX4_shareBy 13 = .ok (.ireturn, 1) := by decide +kernel
theorem dX4_shareBy_14 : decode cX4_shareBy 14 = .ok (.iconst 0, 1) := by decide +kernel
theorem dX4_shareBy_15 : decode cX4_shareBy 15 = .ok (.istore 4, 2) := by decide +kernel
theorem dX4_shareBy_17 : decode cX4_shareBy 17 = .ok (.iconst 0, 1) := by decide +kernel
theorem dX4_shareBy_18 : decode cX4_shareBy 18 = .ok (.istore 5, 2) := by decide +kernel
theorem dX4_shareBy_20 : decode cX4_shareBy 20 = .ok (.iload 5, 2) := by decide +kernel
theorem dX4_shareBy_22 : decode cX4_shareBy 22 = .ok (.aload_n 0, 1) := by decide +kernel
theorem dX4_shareBy_23 : decode cX4_shareBy 23 = .ok (.getfield 36, 3) := by decide +kernel
theorem dX4_shareBy_26 : decode cX4_shareBy 26 = .ok (.if_icmp .ge 40, 3) := by decide +kernel
theorem dX4_shareBy_29 : decode cX4_shareBy 29 = .ok (.aload_n 0, 1) := by decide +kernel
theorem dX4_shareBy_30 : decode cX4_shareBy 30 = .ok (.getfield 29, 3) := by decide +kernel
theorem dX4_shareBy_33 : decode cX4_shareBy 33 = .ok (.iload 5, 2) := by decide +kernel
theorem dX4_shareBy_35 : decode cX4_shareBy 35 = .ok (.iload_n 2, 1) := by decide +kernel
theorem dX4_shareBy_36 : decode cX4_shareBy 36 = .ok (.iconst 1, 1) := by decide +kernel
theorem dX4_shareBy_37 : decode cX4_shareBy 37 = .ok (.isub, 1) := by decide +kernel
theorem dX4_shareBy_38 : decode cX4_shareBy 38 = .ok (.invokevirtual 80, 3) := by decide +kernel
theorem dX4_shareBy_41 : decode cX4_shareBy 41 = .ok (.iload_n 3, 1) := by decide +kernel
theorem dX4_shareBy_42 : decode cX4_shareBy 42 = .ok (.if_icmp .ne 18, 3) := by decide +kernel
theorem dX4_shareBy_45 : decode cX4_shareBy 45 = .ok (.iload 4, 2) := by decide +kernel
theorem dX4_shareBy_47 : decode cX4_shareBy 47 = .ok (.aload_n 0, 1) := by decide +kernel
theorem dX4_shareBy_48 : decode cX4_shareBy 48 = .ok (.getfield 26, 3) := by decide +kernel
theorem dX4_shareBy_51 : decode cX4_shareBy 51 = .ok (.iload_n 1, 1) := by decide +kernel
theorem dX4_shareBy_52 : decode cX4_shareBy 52 = .ok (.iload 5, 2) := by decide +kernel
theorem dX4_shareBy_54 : decode cX4_shareBy 54 = .ok (.invokevirtual 80, 3) := by decide +kernel
theorem dX4_shareBy_57 : decode cX4_shareBy 57 = .ok (.iadd, 1) := by decide +kernel
theorem dX4_shareBy_58 : decode cX4_shareBy 58 = .ok (.istore 4, 2) := by decide +kernel
theorem dX4_shareBy_60 : decode cX4_shareBy 60 = .ok (.iinc 5 1, 3) := by decide +kernel
theorem dX4_shareBy_63 : decode cX4_shareBy 63 = .ok (.goto (-43), 3) := by decide +kernel
theorem dX4_shareBy_66 : decode cX4_shareBy 66 = .ok (.iload 4, 2) := by decide +kernel
theorem dX4_shareBy_68 : decode cX4_shareBy 68 = .ok (.ireturn, 1) := by decide +kernel
theorem dX4_harvestsIn_0 : decode cX4_harvestsIn 0 = .ok (.iconst 0, 1) := by decide +kernel
theorem dX4_harvestsIn_1 : decode cX4_harvestsIn 1 = .ok (.istore_n 2, 1) := by decide +kernel
theorem dX4_harvestsIn_2 : decode cX4_harvestsIn 2 = .ok (.iconst 0, 1) := by decide +kernel
theorem dX4_harvestsIn_3 : decode cX4_harvestsIn 3 = .ok (.istore_n 3, 1) := by decide +kernel
theorem dX4_harvestsIn_4 : decode cX4_harvestsIn 4 = .ok (.iload_n 3, 1) := by decide +kernel
theorem dX4_harvestsIn_5 : decode cX4_harvestsIn 5 = .ok (.aload_n 0, 1) := by decide +kernel
theorem dX4_harvestsIn_6 : decode cX4_harvestsIn 6 = .ok (.getfield 36, 3) := by decide +kernel
theorem dX4_harvestsIn_9 : decode cX4_harvestsIn 9 = .ok (.if_icmp .ge 24, 3) := by decide +kernel
theorem dX4_harvestsIn_12 : decode cX4_harvestsIn 12 = .ok (.aload_n 0, 1) := by decide +kernel
theorem dX4_harvestsIn_13 : decode cX4_harvestsIn 13 = .ok (.getfield 26, 3) := by decide +kernel
theorem dX4_harvestsIn_16 : decode cX4_harvestsIn 16 = .ok (.iload_n 1, 1) := by decide +kernel
theorem dX4_harvestsIn_17 : decode cX4_harvestsIn 17 = .ok (.iload_n 3, 1) := by decide +kernel
theorem dX4_harvestsIn_18 : decode cX4_harvestsIn 18 = .ok (.invokevirtual 80, 3) := by decide +kernel
theorem dX4_harvestsIn_21 : decode cX4_harvestsIn 21 = .ok (.ifCond .le 6, 3) := by decide +kernel
theorem dX4_harvestsIn_24 : decode cX4_harvestsIn 24 = .ok (.iinc 2 1, 3) := by decide +kernel
theorem dX4_harvestsIn_27 : decode cX4_harvestsIn 27 = .ok (.iinc 3 1, 3) := by decide +kernel
theorem dX4_harvestsIn_30 : decode cX4_harvestsIn 30 = .ok (.goto (-26), 3) := by decide +kernel
theorem dX4_harvestsIn_33 : decode cX4_harvestsIn 33 = .ok (.iload_n 2, 1) := by decide +kernel
theorem dX4_harvestsIn_34 : decode cX4_harvestsIn 34 = .ok (.ireturn, 1) := by decide +kernel
theorem dX4_vintageSum_0 : decode cX4_vintageSum 0 = .ok (.iconst 0, 1) := by decide +kernel
theorem dX4_vintageSum_1 : decode cX4_vintageSum 1 = .ok (.istore_n 2, 1) := by decide +kernel
theorem dX4_vintageSum_2 : decode cX4_vintageSum 2 = .ok (.iconst 0, 1) := by decide +kernel
theorem dX4_vintageSum_3 : decode cX4_vintageSum 3 = .ok (.istore_n 3, 1) := by decide +kernel
theorem dX4_vintageSum_4 : decode cX4_vintageSum 4 = .ok (.iload_n 3, 1) := by decide +kernel
theorem dX4_vintageSum_5 : decode cX4_vintageSum 5 = .ok (.aload_n 0, 1) := by decide +kernel
theorem dX4_vintageSum_6 : decode cX4_vintageSum 6 = .ok (.getfield 36, 3) := by decide +kernel
theorem dX4_vintageSum_9 : decode cX4_vintageSum 9 = .ok (.if_icmp .ge 31, 3) := by decide +kernel
theorem dX4_vintageSum_12 : decode cX4_vintageSum 12 = .ok (.iload_n 2, 1) := by decide +kernel
theorem dX4_vintageSum_13 : decode cX4_vintageSum 13 = .ok (.aload_n 0, 1) := by decide +kernel
theorem dX4_vintageSum_14 : decode cX4_vintageSum 14 = .ok (.getfield 26, 3) := by decide +kernel
theorem dX4_vintageSum_17 : decode cX4_vintageSum 17 = .ok (.iload_n 1, 1) := by decide +kernel
theorem dX4_vintageSum_18 : decode cX4_vintageSum 18 = .ok (.iload_n 3, 1) := by decide +kernel
theorem dX4_vintageSum_19 : decode cX4_vintageSum 19 = .ok (.invokevirtual 80, 3) := by decide +kernel
theorem dX4_vintageSum_22 : decode cX4_vintageSum 22 = .ok (.aload_n 0, 1) := by decide +kernel
theorem dX4_vintageSum_23 : decode cX4_vintageSum 23 = .ok (.getfield 29, 3) := by decide +kernel
theorem dX4_vintageSum_26 : decode cX4_vintageSum 26 = .ok (.iload_n 3, 1) := by decide +kernel
theorem dX4_vintageSum_27 : decode cX4_vintageSum 27 = .ok (.iconst 0, 1) := by decide +kernel
theorem dX4_vintageSum_28 : decode cX4_vintageSum 28 = .ok (.invokevirtual 80, 3) := by decide +kernel
theorem dX4_vintageSum_31 : decode cX4_vintageSum 31 = .ok (.imul, 1) := by decide +kernel
theorem dX4_vintageSum_32 : decode cX4_vintageSum 32 = .ok (.iadd, 1) := by decide +kernel
theorem dX4_vintageSum_33 : decode cX4_vintageSum 33 = .ok (.istore_n 2, 1) := by decide +kernel
theorem dX4_vintageSum_34 : decode cX4_vintageSum 34 = .ok (.iinc 3 1, 3) := by decide +kernel
theorem dX4_vintageSum_37 : decode cX4_vintageSum 37 = .ok (.goto (-33), 3) := by decide +kernel
theorem dX4_vintageSum_40 : decode cX4_vintageSum 40 = .ok (.iload_n 2, 1) := by decide +kernel
theorem dX4_vintageSum_41 : decode cX4_vintageSum 41 = .ok (.ireturn, 1) := by decide +kernel
theorem dX4_partSetOf_0 : decode cX4_partSetOf 0 = .ok (.iconst 0, 1) := by decide +kernel
theorem dX4_partSetOf_1 : decode cX4_partSetOf 1 = .ok (.istore_n 2, 1) := by decide +kernel
theorem dX4_partSetOf_2 : decode cX4_partSetOf 2 = .ok (.iconst 0, 1) := by decide +kernel
theorem dX4_partSetOf_3 : decode cX4_partSetOf 3 = .ok (.istore_n 3, 1) := by decide +kernel
theorem dX4_partSetOf_4 : decode cX4_partSetOf 4 = .ok (.iload_n 3, 1) := by decide +kernel
theorem dX4_partSetOf_5 : decode cX4_partSetOf 5 = .ok (.aload_n 0, 1) := by decide +kernel
theorem dX4_partSetOf_6 : decode cX4_partSetOf 6 = .ok (.iload_n 1, 1) := by decide +kernel
theorem dX4_partSetOf_7 : decode cX4_partSetOf 7 = .ok (.invokevirtual 105, 3) := by decide +kernel
theorem dX4_partSetOf_10 : decode cX4_partSetOf 10 = .ok (.if_icmp .ge 23, 3) := by decide +kernel
theorem dX4_partSetOf_13 : decode cX4_partSetOf 13 = .ok (.iload_n 2, 1) := by decide +kernel
theorem dX4_partSetOf_14 : decode cX4_partSetOf 14 = .ok (.iconst 1, 1) := by decide +kernel
theorem dX4_partSetOf_15 : decode cX4_partSetOf 15 = .ok (.aload_n 0, 1) := by decide +kernel
theorem dX4_partSetOf_16 : decode cX4_partSetOf 16 = .ok (.getfield 20, 3) := by decide +kernel
theorem dX4_partSetOf_19 : decode cX4_partSetOf 19 = .ok (.iload_n 1, 1) := by decide +kernel
theorem dX4_partSetOf_20 : decode cX4_partSetOf 20 = .ok (.iload_n 3, 1) := by decide +kernel
theorem dX4_partSetOf_21 : decode cX4_partSetOf 21 = .ok (.invokevirtual 80, 3) := by decide +kernel
theorem dX4_partSetOf_24 : decode cX4_partSetOf 24 = .ok (.ishl, 1) := by decide +kernel
theorem dX4_partSetOf_25 : decode cX4_partSetOf 25 = .ok (.ior, 1) := by decide +kernel
theorem dX4_partSetOf_26 : decode cX4_partSetOf 26 = .ok (.istore_n 2, 1) := by decide +kernel
theorem dX4_partSetOf_27 : decode cX4_partSetOf 27 = .ok (.iinc 3 1, 3) := by decide +kernel
theorem dX4_partSetOf_30 : decode cX4_partSetOf 30 = .ok (.goto (-26), 3) := by decide +kernel
theorem dX4_partSetOf_33 : decode cX4_partSetOf 33 = .ok (.iload_n 2, 1) := by decide +kernel
theorem dX4_partSetOf_34 : decode cX4_partSetOf 34 = .ok (.ireturn, 1) := by decide +kernel
theorem dX4_blendsOf_0 : decode cX4_blendsOf 0 = .ok (.iconst 0, 1) := by decide +kernel
theorem dX4_blendsOf_1 : decode cX4_blendsOf 1 = .ok (.istore_n 2, 1) := by decide +kernel
theorem dX4_blendsOf_2 : decode cX4_blendsOf 2 = .ok (.iload_n 1, 1) := by decide +kernel
theorem dX4_blendsOf_3 : decode cX4_blendsOf 3 = .ok (.iconst 1, 1) := by decide +kernel
theorem dX4_blendsOf_4 : decode cX4_blendsOf 4 = .ok (.iadd, 1) := by decide +kernel
theorem dX4_blendsOf_5 : decode cX4_blendsOf 5 = .ok (.istore_n 3, 1) := by decide +kernel
theorem dX4_blendsOf_6 : decode cX4_blendsOf 6 = .ok (.iload_n 3, 1) := by decide +kernel
theorem dX4_blendsOf_7 : decode cX4_blendsOf 7 = .ok (.aload_n 0, 1) := by decide +kernel
theorem dX4_blendsOf_8 : decode cX4_blendsOf 8 = .ok (.getfield 32, 3) := by decide +kernel
theorem dX4_blendsOf_11 : decode cX4_blendsOf 11 = .ok (.if_icmp .ge 27, 3) := by decide +kernel
theorem dX4_blendsOf_14 : decode cX4_blendsOf 14 = .ok (.aload_n 0, 1) := by decide +kernel
theorem dX4_blendsOf_15 : decode cX4_blendsOf 15 = .ok (.iload_n 3, 1) := by decide +kernel
theorem dX4_blendsOf_16 : decode cX4_blendsOf 16 = .ok (.invokevirtual 108, 3) := by decide +kernel
theorem dX4_blendsOf_19 : decode cX4_blendsOf 19 = .ok (.iload_n 1, 1) := by decide +kernel
theorem dX4_blendsOf_20 : decode cX4_blendsOf 20 = .ok (.invokestatic 111, 3) := by decide +kernel
theorem dX4_blendsOf_23 : decode cX4_blendsOf 23 = .ok (.ifCond .eq 9, 3) := by decide +kernel
theorem dX4_blendsOf_26 : decode cX4_blendsOf 26 = .ok (.iload_n 2, 1) := by decide +kernel
theorem dX4_blendsOf_27 : decode cX4_blendsOf 27 = .ok (.iconst 1, 1) := by decide +kernel
theorem dX4_blendsOf_28 : decode cX4_blendsOf 28 = .ok (.iload_n 3, 1) := by decide +kernel
theorem dX4_blendsOf_29 : decode cX4_blendsOf 29 = .ok (.ishl, 1) := by decide +kernel
theorem dX4_blendsOf_30 : decode cX4_blendsOf 30 = .ok (.ior, 1) := by decide +kernel
theorem dX4_blendsOf_31 : decode cX4_blendsOf 31 = .ok (.istore_n 2, 1) := by decide +kernel
theorem dX4_blendsOf_32 : decode cX4_blendsOf 32 = .ok (.iinc 3 1, 3) := by decide +kernel
theorem dX4_blendsOf_35 : decode cX4_blendsOf 35 = .ok (.goto (-29), 3) := by decide +kernel
theorem dX4_blendsOf_38 : decode cX4_blendsOf 38 = .ok (.iload_n 2, 1) := by decide +kernel
theorem dX4_blendsOf_39 : decode cX4_blendsOf 39 = .ok (.ireturn, 1) := by decide +kernel
theorem dX4_allMadeOf_0 : decode cX4_allMadeOf 0 = .ok (.iconst 1, 1) := by decide +kernel
theorem dX4_allMadeOf_1 : decode cX4_allMadeOf 1 = .ok (.iload_n 1, 1) := by decide +kernel
theorem dX4_allMadeOf_2 : decode cX4_allMadeOf 2 = .ok (.ishl, 1) := by decide +kernel
theorem dX4_allMadeOf_3 : decode cX4_allMadeOf 3 = .ok (.istore_n 2, 1) := by decide +kernel
theorem dX4_allMadeOf_4 : decode cX4_allMadeOf 4 = .ok (.iload_n 1, 1) := by decide +kernel
theorem dX4_allMadeOf_5 : decode cX4_allMadeOf 5 = .ok (.istore_n 3, 1) := by decide +kernel
theorem dX4_allMadeOf_6 : decode cX4_allMadeOf 6 = .ok (.iload_n 3, 1) := by decide +kernel
theorem dX4_allMadeOf_7 : decode cX4_allMadeOf 7 = .ok (.aload_n 0, 1) := by decide +kernel
theorem dX4_allMadeOf_8 : decode cX4_allMadeOf 8 = .ok (.getfield 32, 3) := by decide +kernel
theorem dX4_allMadeOf_11 : decode cX4_allMadeOf 11 = .ok (.if_icmp .ge 25, 3) := by decide +kernel
theorem dX4_allMadeOf_14 : decode cX4_allMadeOf 14 = .ok (.iload_n 2, 1) := by decide +kernel
theorem dX4_allMadeOf_15 : decode cX4_allMadeOf 15 = .ok (.iload_n 3, 1) := by decide +kernel
theorem dX4_allMadeOf_16 : decode cX4_allMadeOf 16 = .ok (.invokestatic 111, 3) := by decide +kernel
theorem dX4_allMadeOf_19 : decode cX4_allMadeOf 19 = .ok (.ifCond .eq 11, 3) := by decide +kernel
theorem dX4_allMadeOf_22 : decode cX4_allMadeOf 22 = .ok (.iload_n 2, 1) := by decide +kernel
theorem dX4_allMadeOf_23 : decode cX4_allMadeOf 23 = .ok (.aload_n 0, 1) := by decide +kernel
theorem dX4_allMadeOf_24 : decode cX4_allMadeOf 24 = .ok (.iload_n 3, 1) := by decide +kernel
theorem dX4_allMadeOf_25 : decode cX4_allMadeOf 25 = .ok (.invokevirtual 115, 3) := by decide +kernel
theorem dX4_allMadeOf_28 : decode cX4_allMadeOf 28 = .ok (.ior, 1) := by decide +kernel
theorem dX4_allMadeOf_29 : decode cX4_allMadeOf 29 = .ok (.istore_n 2, 1) := by decide +kernel
theorem dX4_allMadeOf_30 : decode cX4_allMadeOf 30 = .ok (.iinc 3 1, 3) := by decide +kernel
theorem dX4_allMadeOf_33 : decode cX4_allMadeOf 33 = .ok (.goto (-27), 3) := by decide +kernel
theorem dX4_allMadeOf_36 : decode cX4_allMadeOf 36 = .ok (.iload_n 2, 1) := by decide +kernel
theorem dX4_allMadeOf_37 : decode cX4_allMadeOf 37 = .ok (.ireturn, 1) := by decide +kernel
theorem dX4_allThatMake_0 : decode cX4_allThatMake 0 = .ok (.iconst 1, 1) := by decide +kernel
theorem dX4_allThatMake_1 : decode cX4_allThatMake 1 = .ok (.iload_n 1, 1) := by decide +kernel
theorem dX4_allThatMake_2 : decode cX4_allThatMake 2 = .ok (.ishl, 1) := by decide +kernel
theorem dX4_allThatMake_3 : decode cX4_allThatMake 3 = .ok (.istore_n 2, 1) := by decide +kernel
theorem dX4_allThatMake_4 : decode cX4_allThatMake 4 = .ok (.iload_n 1, 1) := by decide +kernel
theorem dX4_allThatMake_5 : decode cX4_allThatMake 5 = .ok (.istore_n 3, 1) := by decide +kernel
theorem dX4_allThatMake_6 : decode cX4_allThatMake 6 = .ok (.iload_n 3, 1) := by decide +kernel
theorem dX4_allThatMake_7 : decode cX4_allThatMake 7 = .ok (.ifCond .lt 25, 3) := by decide +kernel
theorem dX4_allThatMake_10 : decode cX4_allThatMake 10 = .ok (.iload_n 2, 1) := by decide +kernel
theorem dX4_allThatMake_11 : decode cX4_allThatMake 11 = .ok (.iload_n 3, 1) := by decide +kernel
theorem dX4_allThatMake_12 : decode cX4_allThatMake 12 = .ok (.invokestatic 111, 3) := by decide +kernel
theorem dX4_allThatMake_15 : decode cX4_allThatMake 15 = .ok (.ifCond .eq 11, 3) := by decide +kernel
theorem dX4_allThatMake_18 : decode cX4_allThatMake 18 = .ok (.iload_n 2, 1) := by decide +kernel
theorem dX4_allThatMake_19 : decode cX4_allThatMake 19 = .ok (.aload_n 0, 1) := by decide +kernel
theorem dX4_allThatMake_20 : decode cX4_allThatMake 20 = .ok (.iload_n 3, 1) := by decide +kernel
theorem dX4_allThatMake_21 : decode cX4_allThatMake 21 = .ok (.invokevirtual 108, 3) := by decide +kernel
theorem dX4_allThatMake_24 : decode cX4_allThatMake 24 = .ok (.ior, 1) := by decide +kernel
theorem dX4_allThatMake_25 : decode cX4_allThatMake 25 = .ok (.istore_n 2, 1) := by decide +kernel
theorem dX4_allThatMake_26 : decode cX4_allThatMake 26 = .ok (.iinc 3 (-1), 3) := by decide +kernel
theorem dX4_allThatMake_29 : decode cX4_allThatMake 29 = .ok (.goto (-23), 3) := by decide +kernel
theorem dX4_allThatMake_32 : decode cX4_allThatMake 32 = .ok (.iload_n 2, 1) := by decide +kernel
theorem dX4_allThatMake_33 : decode cX4_allThatMake 33 = .ok (.ireturn, 1) := by decide +kernel
theorem dX4_waysInto_0 : decode cX4_waysInto 0 = .ok (.iconst 0, 1) := by decide +kernel
theorem dX4_waysInto_1 : decode cX4_waysInto 1 = .ok (.istore 4, 2) := by decide +kernel
theorem dX4_waysInto_3 : decode cX4_waysInto 3 = .ok (.iload 4, 2) := by decide +kernel
theorem dX4_waysInto_5 : decode cX4_waysInto 5 = .ok (.iload_n 2, 1) := by decide +kernel
theorem dX4_waysInto_6 : decode cX4_waysInto 6 = .ok (.if_icmp .gt 78, 3) := by decide +kernel
theorem dX4_waysInto_9 : decode cX4_waysInto 9 = .ok (.iload 4, 2) := by decide +kernel
theorem dX4_waysInto_11 : decode cX4_waysInto 11 = .ok (.iload_n 1, 1) := by decide +kernel
theorem dX4_waysInto_12 : decode cX4_waysInto 12 = .ok (.if_icmp .ne 7, 3) := by decide +kernel
theorem dX4_waysInto_15 : decode cX4_waysInto 15 = .ok (.iconst 1, 1) := by decide +kernel
theorem dX4_waysInto_16 : decode cX4_waysInto 16 = .ok (.goto 4, 3) := by decide +kernel
theorem dX4_waysInto_19 : decode cX4_waysInto 19 = .ok (.iconst 0, 1) := by decide +kernel
theorem dX4_waysInto_20 : decode cX4_waysInto 20 = .ok (.istore 5, 2) := by decide +kernel
theorem dX4_waysInto_22 : decode cX4_waysInto 22 = .ok (.iconst 0, 1) := by decide +kernel
theorem dX4_waysInto_23 : decode cX4_waysInto 23 = .ok (.istore 6, 2) := by decide +kernel
theorem dX4_waysInto_25 : decode cX4_waysInto 25 = .ok (.iload 4, 2) := by decide +kernel
theorem dX4_waysInto_27 : decode cX4_waysInto 27 = .ok (.iload_n 1, 1) := by decide +kernel
theorem dX4_waysInto_28 : decode cX4_waysInto 28 = .ok (.if_icmp .le 41, 3) := by decide +kernel
theorem dX4_waysInto_31 : decode cX4_waysInto 31 = .ok (.iload 6, 2) := by decide +kernel
theorem dX4_waysInto_33 : decode cX4_waysInto 33 = .ok (.aload_n 0, 1) := by decide +kernel
theorem dX4_waysInto_34 : decode cX4_waysInto 34 = .ok (.iload 4, 2) := by decide +kernel
theorem dX4_waysInto_36 : decode cX4_waysInto 36 = .ok (.invokevirtual 105, 3) := by decide +kernel
theorem dX4_waysInto_39 : decode cX4_waysInto 39 = .ok (.if_icmp .ge 30, 3) := by decide +kernel
theorem dX4_waysInto_42 : decode cX4_waysInto 42 = .ok (.iload 5, 2) := by decide +kernel
theorem dX4_waysInto_44 : decode cX4_waysInto 44 = .ok (.aload_n 3, 1) := by decide +kernel
theorem dX4_waysInto_45 : decode cX4_waysInto 45 = .ok (.iconst 0, 1) := by decide +kernel
theorem dX4_waysInto_46 : decode cX4_waysInto 46 = .ok (.aload_n 0, 1) := by decide +kernel
theorem dX4_waysInto_47 : decode cX4_waysInto 47 = .ok (.getfield 20, 3) := by decide +kernel
theorem dX4_waysInto_50 : decode cX4_waysInto 50 = .ok (.iload 4, 2) := by decide +kernel
theorem dX4_waysInto_52 : decode cX4_waysInto 52 = .ok (.iload 6, 2) := by decide +kernel
theorem dX4_waysInto_54 : decode cX4_waysInto 54 = .ok (.invokevirtual 80, 3) := by decide +kernel
theorem dX4_waysInto_57 : decode cX4_waysInto 57 = .ok (.invokevirtual 80, 3) := by decide +kernel
theorem dX4_waysInto_60 : decode cX4_waysInto 60 = .ok (.iadd, 1) := by decide +kernel
theorem dX4_waysInto_61 : decode cX4_waysInto 61 = .ok (.istore 5, 2) := by decide +kernel
theorem dX4_waysInto_63 : decode cX4_waysInto 63 = .ok (.iinc 6 1, 3) := by decide +kernel
theorem dX4_waysInto_66 : decode cX4_waysInto 66 = .ok (.goto (-41), 3) := by decide +kernel
theorem dX4_waysInto_69 : decode cX4_waysInto 69 = .ok (.aload_n 3, 1) := by decide +kernel
theorem dX4_waysInto_70 : decode cX4_waysInto 70 = .ok (.iconst 0, 1) := by decide +kernel
theorem dX4_waysInto_71 : decode cX4_waysInto 71 = .ok (.iload 4, 2) := by decide +kernel
theorem dX4_waysInto_73 : decode cX4_waysInto 73 = .ok (.iload 5, 2) := by decide +kernel
theorem dX4_waysInto_75 : decode cX4_waysInto 75 = .ok (.invokevirtual 46, 3) := by decide +kernel
theorem dX4_waysInto_78 : decode cX4_waysInto 78 = .ok (.iinc 4 1, 3) := by decide +kernel
theorem dX4_waysInto_81 : decode cX4_waysInto 81 = .ok (.goto (-78), 3) := by decide +kernel
theorem dX4_waysInto_84 : decode cX4_waysInto 84 = .ok (.aload_n 3, 1) := by decide +kernel
theorem dX4_waysInto_85 : decode cX4_waysInto 85 = .ok (.iconst 0, 1) := by decide +kernel
theorem dX4_waysInto_86 : decode cX4_waysInto 86 = .ok (.iload_n 2, 1) := by decide +kernel
theorem dX4_waysInto_87 : decode cX4_waysInto 87 = .ok (.invokevirtual 80, 3) := by decide +kernel
theorem dX4_waysInto_90 : decode cX4_waysInto 90 = .ok (.ireturn, 1) := by decide +kernel
theorem dX4_harvestedQuarters_0 : decode cX4_harvestedQuarters 0 = .ok (.iconst 0, 1) := by decide +kernel
theorem dX4_harvestedQuarters_1 : decode cX4_harvestedQuarters 1 = .ok (.istore_n 1, 1) := by decide +kernel
theorem dX4_harvestedQuarters_2 : decode cX4_harvestedQuarters 2 = .ok (.iconst 0, 1) := by decide +kernel
theorem dX4_harvestedQuarters_3 : decode cX4_harvestedQuarters 3 = .ok (.istore_n 2, 1) := by decide +kernel
theorem dX4_harvestedQuarters_4 : decode cX4_harvestedQuarters 4 = .ok (.iload_n 2, 1) := by decide +kernel
theorem dX4_harvestedQuarters_5 : decode cX4_harvestedQuarters 5 = .ok (.aload_n 0, 1) := by decide +kernel
theorem dX4_harvestedQuarters_6 : decode cX4_harvestedQuarters 6 = .ok (.getfield 32, 3) := by decide +kernel
theorem dX4_harvestedQuarters_9 : decode cX4_harvestedQuarters 9 = .ok (.if_icmp .ge 34, 3) := by decide +kernel
theorem dX4_harvestedQuarters_12 : decode cX4_harvestedQuarters 12 = .ok (.aload_n 0, 1) := by decide +kernel
theorem dX4_harvestedQuarters_13 : decode cX4_harvestedQuarters 13 = .ok (.getfield 14, 3) := by decide +kernel
theorem dX4_harvestedQuarters_16 : decode cX4_harvestedQuarters 16 = .ok (.iload_n 2, 1) := by decide +kernel
theorem dX4_harvestedQuarters_17 : decode cX4_harvestedQuarters 17 = .ok (.iconst 4, 1) := by decide +kernel
theorem dX4_harvestedQuarters_18 : decode cX4_harvestedQuarters 18 = .ok (.invokevirtual 80, 3) := by decide +kernel
theorem dX4_harvestedQuarters_21 : decode cX4_harvestedQuarters 21 = .ok (.iconst (-1), 1) := by decide +kernel
theorem dX4_harvestedQuarters_22 : decode cX4_harvestedQuarters 22 = .ok (.if_icmp .eq 15, 3) := by decide +kernel
theorem dX4_harvestedQuarters_25 : decode cX4_harvestedQuarters 25 = .ok (.iload_n 1, 1) := by decide +kernel
theorem dX4_harvestedQuarters_26 : decode cX4_harvestedQuarters 26 = .ok (.aload_n 0, 1) := by decide +kernel
theorem dX4_harvestedQuarters_27 : decode cX4_harvestedQuarters 27 = .ok (.getfield 14, 3) := by decide +kernel
theorem dX4_harvestedQuarters_30 : decode cX4_harvestedQuarters 30 = .ok (.iload_n 2, 1) := by decide +kernel
theorem dX4_harvestedQuarters_31 : decode cX4_harvestedQuarters 31 = .ok (.iconst 0, 1) := by decide +kernel
theorem dX4_harvestedQuarters_32 : decode cX4_harvestedQuarters 32 = .ok (.invokevirtual 80, 3) := by decide +kernel
theorem dX4_harvestedQuarters_35 : decode cX4_harvestedQuarters 35 = .ok (.iadd, 1) := by decide +kernel
theorem dX4_harvestedQuarters_36 : decode cX4_harvestedQuarters 36 = .ok (.istore_n 1, 1) := by decide +kernel
theorem dX4_harvestedQuarters_37 : decode cX4_harvestedQuarters 37 = .ok (.iinc 2 1, 3) := by decide +kernel
theorem dX4_harvestedQuarters_40 : decode cX4_harvestedQuarters 40 = .ok (.goto (-36), 3) := by decide +kernel
theorem dX4_harvestedQuarters_43 : decode cX4_harvestedQuarters 43 = .ok (.iload_n 1, 1) := by decide +kernel
theorem dX4_harvestedQuarters_44 : decode cX4_harvestedQuarters 44 = .ok (.ireturn, 1) := by decide +kernel
theorem dX4_leftInAll_0 : decode cX4_leftInAll 0 = .ok (.aload_n 0, 1) := by decide +kernel
theorem dX4_leftInAll_1 : decode cX4_leftInAll 1 = .ok (.getfield 14, 3) := by decide +kernel
theorem dX4_leftInAll_4 : decode cX4_leftInAll 4 = .ok (.iconst 1, 1) := by decide +kernel
theorem dX4_leftInAll_5 : decode cX4_leftInAll 5 = .ok (.invokevirtual 118, 3) := by decide +kernel
theorem dX4_leftInAll_8 : decode cX4_leftInAll 8 = .ok (.ireturn, 1) := by decide +kernel
theorem dX5_init_0 : decode cX5_init 0 = .ok (.aload_n 0, 1) := by decide +kernel
theorem dX5_init_1 : decode cX5_init 1 = .ok (.invokespecial 3, 3) := by decide +kernel
theorem dX5_init_4 : decode cX5_init 4 = .ok (.aload_n 0, 1) := by decide +kernel
theorem dX5_init_5 : decode cX5_init 5 = .ok (.new 9, 3) := by decide +kernel
theorem dX5_init_8 : decode cX5_init 8 = .ok (.dup, 1) := by decide +kernel
theorem dX5_init_9 : decode cX5_init 9 = .ok (.invokespecial 11, 3) := by decide +kernel
theorem dX5_init_12 : decode cX5_init 12 = .ok (.putfield 12, 3) := by decide +kernel
theorem dX5_init_15 : decode cX5_init 15 = .ok (.aload_n 0, 1) := by decide +kernel
theorem dX5_init_16 : decode cX5_init 16 = .ok (.new 18, 3) := by decide +kernel
theorem dX5_init_19 : decode cX5_init 19 = .ok (.dup, 1) := by decide +kernel
theorem dX5_init_20 : decode cX5_init 20 = .ok (.invokespecial 20, 3) := by decide +kernel
theorem dX5_init_23 : decode cX5_init 23 = .ok (.putfield 21, 3) := by decide +kernel
theorem dX5_init_26 : decode cX5_init 26 = .ok (.aload_n 0, 1) := by decide +kernel
theorem dX5_init_27 : decode cX5_init 27 = .ok (.new 25, 3) := by decide +kernel
theorem dX5_init_30 : decode cX5_init 30 = .ok (.dup, 1) := by decide +kernel
theorem dX5_init_31 : decode cX5_init 31 = .ok (.invokespecial 27, 3) := by decide +kernel
theorem dX5_init_34 : decode cX5_init 34 = .ok (.putfield 28, 3) := by decide +kernel
theorem dX5_init_37 : decode cX5_init 37 = .ok (.aload_n 0, 1) := by decide +kernel
theorem dX5_init_38 : decode cX5_init 38 = .ok (.new 32, 3) := by decide +kernel
theorem dX5_init_41 : decode cX5_init 41 = .ok (.dup, 1) := by decide +kernel
theorem dX5_init_42 : decode cX5_init 42 = .ok (.iconst 1, 1) := by decide +kernel
theorem dX5_init_43 : decode cX5_init 43 = .ok (.iconst 3, 1) := by decide +kernel
theorem dX5_init_44 : decode cX5_init 44 = .ok (.invokespecial 34, 3) := by decide +kernel
theorem dX5_init_47 : decode cX5_init 47 = .ok (.putfield 37, 3) := by decide +kernel
theorem dX5_init_50 : decode cX5_init 50 = .ok (.aload_n 0, 1) := by decide +kernel
theorem dX5_init_51 : decode cX5_init 51 = .ok (.getfield 37, 3) := by decide +kernel
theorem dX5_init_54 : decode cX5_init 54 = .ok (.iconst 0, 1) := by decide +kernel
theorem dX5_init_55 : decode cX5_init 55 = .ok (.iconst 0, 1) := by decide +kernel
theorem dX5_init_56 : decode cX5_init 56 = .ok (.sipush 850, 3) := by decide +kernel
theorem dX5_init_59 : decode cX5_init 59 = .ok (.invokevirtual 41, 3) := by decide +kernel
theorem dX5_init_62 : decode cX5_init 62 = .ok (.aload_n 0, 1) := by decide +kernel
theorem dX5_init_63 : decode cX5_init 63 = .ok (.getfield 37, 3) := by decide +kernel
theorem dX5_init_66 : decode cX5_init 66 = .ok (.iconst 0, 1) := by decide +kernel
theorem dX5_init_67 : decode cX5_init 67 = .ok (.iconst 1, 1) := by decide +kernel
theorem dX5_init_68 : decode cX5_init 68 = .ok (.sipush 850, 3) := by decide +kernel
theorem dX5_init_71 : decode cX5_init 71 = .ok (.invokevirtual 41, 3) := by decide +kernel
theorem dX5_init_74 : decode cX5_init 74 = .ok (.aload_n 0, 1) := by decide +kernel
theorem dX5_init_75 : decode cX5_init 75 = .ok (.getfield 37, 3) := by decide +kernel
theorem dX5_init_78 : decode cX5_init 78 = .ok (.iconst 0, 1) := by decide +kernel
theorem dX5_init_79 : decode cX5_init 79 = .ok (.iconst 2, 1) := by decide +kernel
theorem dX5_init_80 : decode cX5_init 80 = .ok (.sipush 750, 3) := by decide +kernel
theorem dX5_init_83 : decode cX5_init 83 = .ok (.invokevirtual 41, 3) := by decide +kernel
theorem dX5_init_86 : decode cX5_init 86 = .ok (.return_, 1) := by decide +kernel
theorem dX5_copyFrom_0 : decode cX5_copyFrom 0 = .ok (.aload_n 0, 1) := by decide +kernel
theorem dX5_copyFrom_1 : decode cX5_copyFrom 1 = .ok (.getfield 12, 3) := by decide +kernel
theorem dX5_copyFrom_4 : decode cX5_copyFrom 4 = .ok (.aload_n 1, 1) := by decide +kernel
theorem dX5_copyFrom_5 : decode cX5_copyFrom 5 = .ok (.getfield 12, 3) := by decide +kernel
theorem dX5_copyFrom_8 : decode cX5_copyFrom 8 = .ok (.invokevirtual 45, 3) := by decide +kernel
theorem dX5_copyFrom_11 : decode cX5_copyFrom 11 = .ok (.aload_n 0, 1) := by decide +kernel
theorem dX5_copyFrom_12 : decode cX5_copyFrom 12 = .ok (.getfield 21, 3) := by decide +kernel
theorem dX5_copyFrom_15 : decode cX5_copyFrom 15 = .ok (.aload_n 1, 1) := by decide +kernel
theorem dX5_copyFrom_16 : decode cX5_copyFrom 16 = .ok (.getfield 21, 3) := by decide +kernel
theorem dX5_copyFrom_19 : decode cX5_copyFrom 19 = .ok (.invokevirtual 49, 3) := by decide +kernel
theorem dX5_copyFrom_22 : decode cX5_copyFrom 22 = .ok (.aload_n 0, 1) := by decide +kernel
theorem dX5_copyFrom_23 : decode cX5_copyFrom 23 = .ok (.getfield 28, 3) := by decide +kernel
theorem dX5_copyFrom_26 : decode cX5_copyFrom 26 = .ok (.aload_n 1, 1) := by decide +kernel
theorem dX5_copyFrom_27 : decode cX5_copyFrom 27 = .ok (.getfield 28, 3) := by decide +kernel
theorem dX5_copyFrom_30 : decode cX5_copyFrom 30 = .ok (.invokevirtual 52, 3) := by decide +kernel
theorem dX5_copyFrom_33 : decode cX5_copyFrom 33 = .ok (.aload_n 0, 1) := by decide +kernel
theorem dX5_copyFrom_34 : decode cX5_copyFrom 34 = .ok (.getfield 37, 3) := by decide +kernel
theorem dX5_copyFrom_37 : decode cX5_copyFrom 37 = .ok (.aload_n 1, 1) := by decide +kernel
theorem dX5_copyFrom_38 : decode cX5_copyFrom 38 = .ok (.getfield 37, 3) := by decide +kernel
theorem dX5_copyFrom_41 : decode cX5_copyFrom 41 = .ok (.invokevirtual 55, 3) := by decide +kernel
theorem dX5_copyFrom_44 : decode cX5_copyFrom 44 = .ok (.return_, 1) := by decide +kernel
theorem dX5_bottlingRefusal_0 : decode cX5_bottlingRefusal 0 = .ok (.aload_n 0, 1) := by decide +kernel
theorem dX5_bottlingRefusal_1 : decode cX5_bottlingRefusal 1 = .ok (.getfield 12, 3) := by decide +kernel
theorem dX5_bottlingRefusal_4 : decode cX5_bottlingRefusal 4 = .ok (.iload_n 1, 1) := by decide +kernel
theorem dX5_bottlingRefusal_5 : decode cX5_bottlingRefusal 5 = .ok (.invokevirtual 58, 3) := by decide +kernel
theorem dX5_bottlingRefusal_8 : decode cX5_bottlingRefusal 8 = .ok (.iload_n 2, 1) := by decide +kernel
theorem dX5_bottlingRefusal_9 : decode cX5_bottlingRefusal 9 = .ok (.iconst 3, 1) := by decide +kernel
theorem dX5_bottlingRefusal_10 : decode cX5_bottlingRefusal 10 = .ok (.imul, 1) := by decide +kernel
theorem dX5_bottlingRefusal_11 : decode cX5_bottlingRefusal 11 = .ok (.if_icmp .ge 5, 3) := by decide +kernel
theorem dX5_bottlingRefusal_14 : decode cX5_bottlingRefusal 14 = .ok (.iconst 5, 1) := by decide +kernel
theorem dX5_bottlingRefusal_15 : decode cX5_bottlingRefusal 15 = .ok (.ireturn, 1) := by decide +kernel
theorem dX5_bottlingRefusal_16 : decode cX5_bottlingRefusal 16 = .ok (.aload_n 0, 1) := by decide +kernel
theorem dX5_bottlingRefusal_17 : decode cX5_bottlingRefusal 17 = .ok (.iload_n 1, 1) := by decide +kernel
theorem dX5_bottlingRefusal_18 : decode cX5_bottlingRefusal 18 = .ok (.iload_n 3, 1) := by decide +kernel
theorem dX5_bottlingRefusal_19 : decode cX5_bottlingRefusal 19 = .ok (.iload 4, 2) := by decide +kernel
theorem dX5_bottlingRefusal_21 : decode cX5_bottlingRefusal 21 = .ok (.iload 5, 2) := by decide +kernel
theorem dX5_bottlingRefusal_23 : decode cX5_bottlingRefusal 23 = .ok (.iload 6, 2) := by decide +kernel
theorem dX5_bottlingRefusal_25 : decode cX5_bottlingRefusal 25 = .ok (.invokevirtual 62, 3) := by decide +kernel
theorem dX5_bottlingRefusal_28 : decode cX5_bottlingRefusal 28 = .ok (.istore 7, 2) := by decide +kernel
theorem dX5_bottlingRefusal_30 : decode cX5_bottlingRefusal 30 = .ok (.iload 7, 2) := by decide +kernel
theorem dX5_bottlingRefusal_32 : decode cX5_bottlingRefusal 32 = .ok (.ifCond .eq 6, 3) := by decide +kernel
theorem dX5_bottlingRefusal_35 : decode cX5_bottlingRefusal 35 = .ok (.iload 7, 2) := by decide +kernel
theorem dX5_bottlingRefusal_37 : decode cX5_bottlingRefusal 37 = .ok (.ireturn, 1) := by decide +kernel
theorem dX5_bottlingRefusal_38 : decode cX5_bottlingRefusal 38 = .ok (.aload_n 0, 1) := by decide +kernel
theorem dX5_bottlingRefusal_39 : decode cX5_bottlingRefusal 39 = .ok (.getfield 21, 3) := by decide +kernel
theorem dX5_bottlingRefusal_42 : decode cX5_bottlingRefusal 42 = .ok (.getfield 66, 3) := by decide +kernel
theorem dX5_bottlingRefusal_45 : decode cX5_bottlingRefusal 45 = .ok (.bipush 16, 2) := by decide +kernel
theorem dX5_bottlingRefusal_47 : decode cX5_bottlingRefusal 47 = .ok (.if_icmp .lt 8, 3) := by decide +kernel
theorem dX5_bottlingRefusal_50 : decode cX5_bottlingRefusal 50 = .ok (.bipush 9, 2) := by decide +kernel
theorem dX5_bottlingRefusal_52 : decode cX5_bottlingRefusal 52 = .ok (.goto 4, 3) := by decide +kernel
theorem dX5_bottlingRefusal_55 : decode cX5_bottlingRefusal 55 = .ok (.iconst 0, 1) := by decide +kernel
theorem dX5_bottlingRefusal_56 : decode cX5_bottlingRefusal 56 = .ok (.ireturn, 1) := by decide +kernel
theorem dX5_labelRefusal_0 : decode cX5_labelRefusal 0 = .ok (.aload_n 0, 1) := by decide +kernel
theorem dX5_labelRefusal_1 : decode cX5_labelRefusal 1 = .ok (.iload_n 1, 1) := by decide +kernel
theorem dX5_labelRefusal_2 : decode cX5_labelRefusal 2 = .ok (.iconst 1, 1) := by decide +kernel
theorem dX5_labelRefusal_3 : decode cX5_labelRefusal 3 = .ok (.iload_n 2, 1) := by decide +kernel
theorem dX5_labelRefusal_4 : decode cX5_labelRefusal 4 = .ok (.invokevirtual 70, 3) := by decide +kernel
theorem dX5_labelRefusal_7 : decode cX5_labelRefusal 7 = .ok (.ifCond .ne 6, 3) := by decide +kernel
theorem dX5_labelRefusal_10 : decode cX5_labelRefusal 10 = .ok (.bipush 6, 2) := by decide +kernel
theorem dX5_labelRefusal_12 : decode cX5_labelRefusal 12 = .ok (.ireturn, 1) := by decide +kernel
theorem dX5_labelRefusal_13 : decode cX5_labelRefusal 13 = .ok (.iload 4, 2) := by decide +kernel
theorem dX5_labelRefusal_15 : decode cX5_labelRefusal 15 = .ok (.iconst (-1), 1) := by decide +kernel
theorem dX5_labelRefusal_16 : decode cX5_labelRefusal 16 = .ok (.if_icmp .ne 16, 3) := by decide +kernel
theorem dX5_labelRefusal_19 : decode cX5_labelRefusal 19 = .ok (.aload_n 0, 1) := by decide +kernel
theorem dX5_labelRefusal_20 : decode cX5_labelRefusal 20 = .ok (.iload_n 1, 1) := by decide +kernel
theorem dX5_labelRefusal_21 : decode cX5_labelRefusal 21 = .ok (.iconst 2, 1) := by decide +kernel
theorem dX5_labelRefusal_22 : decode cX5_labelRefusal 22 = .ok (.iload_n 3, 1) := by decide +kernel
theorem dX5_labelRefusal_23 : decode cX5_labelRefusal 23 = .ok (.invokevirtual 70, 3) := by decide +kernel
theorem dX5_labelRefusal_26 : decode cX5_labelRefusal 26 = .ok (.ifCond .ne 20, 3) := by decide +kernel
theorem dX5_labelRefusal_29 : decode cX5_labelRefusal 29 = .ok (.goto 14, 3) := by decide +kernel
theorem dX5_labelRefusal_32 : decode cX5_labelRefusal 32 = .ok (.aload_n 0, 1) := by decide +kernel
theorem dX5_labelRefusal_33 : decode cX5_labelRefusal 33 = .ok (.iload_n 1, 1) := by decide +kernel
theorem dX5_labelRefusal_34 : decode cX5_labelRefusal 34 = .ok (.iload_n 3, 1) := by decide +kernel
theorem dX5_labelRefusal_35 : decode cX5_labelRefusal 35 = .ok (.iload 4, 2) := by decide +kernel
theorem dX5_labelRefusal_37 : decode cX5_labelRefusal 37 = .ok (.invokevirtual 74, 3) := by decide +kernel
theorem dX5_labelRefusal_40 : decode cX5_labelRefusal 40 = .ok (.ifCond .ne 6, 3) := by decide +kernel
theorem dX5_labelRefusal_43 : decode cX5_labelRefusal 43 = .ok (.bipush 7, 2) := by decide +kernel
theorem dX5_labelRefusal_45 : decode cX5_labelRefusal 45 = .ok (.ireturn, 1) := by decide +kernel
theorem dX5_labelRefusal_46 : decode cX5_labelRefusal 46 = .ok (.aload_n 0, 1) := by decide +kernel
theorem dX5_labelRefusal_47 : decode cX5_labelRefusal 47 = .ok (.iload_n 1, 1) := by decide +kernel
theorem dX5_labelRefusal_48 : decode cX5_labelRefusal 48 = .ok (.iconst 3, 1) := by decide +kernel
theorem dX5_labelRefusal_49 : decode cX5_labelRefusal 49 = .ok (.iload 5, 2) := by decide +kernel
theorem dX5_labelRefusal_51 : decode cX5_labelRefusal 51 = .ok (.invokevirtual 70, 3) := by decide +kernel
theorem dX5_labelRefusal_54 : decode cX5_labelRefusal 54 = .ok (.ifCond .eq 7, 3) := by decide +kernel
theorem dX5_labelRefusal_57 : decode cX5_labelRefusal 57 = .ok (.iconst 0, 1) := by decide +kernel
theorem dX5_labelRefusal_58 : decode cX5_labelRefusal 58 = .ok (.goto 5, 3) := by decide +kernel
theorem dX5_labelRefusal_61 : decode cX5_labelRefusal 61 = .ok (.bipush 8, 2) := by decide +kernel
theorem dX5_labelRefusal_63 : decode cX5_labelRefusal 63 = .ok (.ireturn, 1) := by decide +kernel
theorem dX5_isAllowed_0 : decode cX5_isAllowed 0 = .ok (.iload_n 3, 1) := by decide +kernel
theorem dX5_isAllowed_1 : decode cX5_isAllowed 1 = .ok (.iconst (-1), 1) := by decide +kernel
theorem dX5_isAllowed_2 : decode cX5_isAllowed 2 = .ok (.if_icmp .eq 27, 3) := by decide +kernel
theorem dX5_isAllowed_5 : decode cX5_isAllowed 5 = .ok (.aload_n 0, 1) := by decide +kernel
theorem dX5_isAllowed_6 : decode cX5_isAllowed 6 = .ok (.getfield 12, 3) := by decide +kernel
theorem dX5_isAllowed_9 : decode cX5_isAllowed 9 = .ok (.iload_n 1, 1) := by decide +kernel
theorem dX5_isAllowed_10 : decode cX5_isAllowed 10 = .ok (.iload_n 2, 1) := by decide +kernel
theorem dX5_isAllowed_11 : decode cX5_isAllowed 11 = .ok (.iload_n 3, 1) := by decide +kernel
theorem dX5_isAllowed_12 : decode cX5_isAllowed 12 = .ok (.invokevirtual 77, 3) := by decide +kernel
theorem dX5_isAllowed_15 : decode cX5_isAllowed 15 = .ok (.aload_n 0, 1) := by decide +kernel
theorem dX5_isAllowed_16 : decode cX5_isAllowed 16 = .ok (.getfield 37, 3) := by decide +kernel
theorem dX5_isAllowed_19 : decode cX5_isAllowed 19 = .ok (.iconst 0, 1) := by decide +kernel
theorem dX5_isAllowed_20 : decode cX5_isAllowed 20 = .ok (.iload_n 2, 1) := by decide +kernel
theorem dX5_isAllowed_21 : decode cX5_isAllowed 21 = .ok (.iconst 1, 1) := by decide +kernel
theorem dX5_isAllowed_22 : decode cX5_isAllowed 22 = .ok (.isub, 1) := by decide +kernel
theorem dX5_isAllowed_23 : decode cX5_isAllowed 23 = .ok (.invokevirtual 81, 3) := by decide +kernel
theorem dX5_isAllowed_26 : decode cX5_isAllowed 26 = .ok (.if_icmp .lt 7, 3) := by decide +kernel
theorem dX5_isAllowed_29 : decode cX5_isAllowed 29 = .ok (.iconst 1, 1) := by decide +kernel
theorem dX5_isAllowed_30 : decode cX5_isAllowed 30 = .ok (.goto 4, 3) := by decide +kernel
theorem dX5_isAllowed_33 : decode cX5_isAllowed 33 = .ok (.iconst 0, 1) := by decide +kernel
theorem dX5_isAllowed_34 : decode cX5_isAllowed 34 = .ok (.ireturn, 1) := by decide +kernel
theorem dX5_areAllowed_0 : decode cX5_areAllowed 0 = .ok (.aload_n 0, 1) := by decide +kernel
theorem dX5_areAllowed_1 : decode cX5_areAllowed 1 = .ok (.getfield 12, 3) := by decide +kernel
theorem dX5_areAllowed_4 : decode cX5_areAllowed 4 = .ok (.iload_n 1, 1) := by decide +kernel
theorem dX5_areAllowed_5 : decode cX5_areAllowed 5 = .ok (.iconst 2, 1) := by decide +kernel
theorem dX5_areAllowed_6 : decode cX5_areAllowed 6 = .ok (.iload_n 2, 1) := by decide +kernel
theorem dX5_areAllowed_7 : decode cX5_areAllowed 7 = .ok (.invokevirtual 77, 3) := by decide +kernel
theorem dX5_areAllowed_10 : decode cX5_areAllowed 10 = .ok (.istore 4, 2) := by decide +kernel
theorem dX5_areAllowed_12 : decode cX5_areAllowed 12 = .ok (.aload_n 0, 1) := by decide +kernel
theorem dX5_areAllowed_13 : decode cX5_areAllowed 13 = .ok (.getfield 12, 3) := by decide +kernel
theorem dX5_areAllowed_16 : decode cX5_areAllowed 16 = .ok (.iload_n 1, 1) := by decide +kernel
theorem dX5_areAllowed_17 : decode cX5_areAllowed 17 = .ok (.iconst 2, 1) := by decide +kernel
theorem dX5_areAllowed_18 : decode cX5_areAllowed 18 = .ok (.iload_n 3, 1) := by decide +kernel
theorem dX5_areAllowed_19 : decode cX5_areAllowed 19 = .ok (.invokevirtual 77, 3) := by decide +kernel
theorem dX5_areAllowed_22 : decode cX5_areAllowed 22 = .ok (.istore 5, 2) := by decide +kernel
theorem dX5_areAllowed_24 : decode cX5_areAllowed 24 = .ok (.iload 4, 2) := by decide +kernel
theorem dX5_areAllowed_26 : decode cX5_areAllowed 26 = .ok (.iload 5, 2) := by decide +kernel
theorem dX5_areAllowed_28 : decode cX5_areAllowed 28 = .ok (.if_icmp .lt 29, 3) := by decide +kernel
theorem dX5_areAllowed_31 : decode cX5_areAllowed 31 = .ok (.iload 5, 2) := by decide +kernel
theorem dX5_areAllowed_33 : decode cX5_areAllowed 33 = .ok (.ifCond .eq 24, 3) := by decide +kernel
theorem dX5_areAllowed_36 : decode cX5_areAllowed 36 = .ok (.iload 4, 2) := by decide +kernel
theorem dX5_areAllowed_38 : decode cX5_areAllowed 38 = .ok (.iload 5, 2) := by decide +kernel
theorem dX5_areAllowed_40 : decode cX5_areAllowed 40 = .ok (.iadd, 1) := by decide +kernel
theorem dX5_areAllowed_41 : decode cX5_areAllowed 41 = .ok (.aload_n 0, 1) := by decide +kernel
theorem dX5_areAllowed_42 : decode cX5_areAllowed 42 = .ok (.getfield 37, 3) := by decide +kernel
theorem dX5_areAllowed_45 : decode cX5_areAllowed 45 = .ok (.iconst 0, 1) := by decide +kernel
theorem dX5_areAllowed_46 : decode cX5_areAllowed 46 = .ok (.iconst 1, 1) := by decide +kernel
theorem dX5_areAllowed_47 : decode cX5_areAllowed 47 = .ok (.invokevirtual 81, 3) := by decide +kernel
theorem dX5_areAllowed_50 : decode cX5_areAllowed 50 = .ok (.if_icmp .lt 7, 3) := by decide +kernel
theorem dX5_areAllowed_53 : decode cX5_areAllowed 53 = .ok (.iconst 1, 1) := by decide +kernel
theorem dX5_areAllowed_54 : decode cX5_areAllowed 54 = .ok (.goto 4, 3) := by decide +kernel
theorem dX5_areAllowed_57 : decode cX5_areAllowed 57 = .ok (.iconst 0, 1) := by decide +kernel
theorem dX5_areAllowed_58 : decode cX5_areAllowed 58 = .ok (.ireturn, 1) := by decide +kernel
theorem dX5_isLabelAllowed_0 : decode cX5_isLabelAllowed 0 = .ok (.aload_n 0, 1) := by decide +kernel
theorem dX5_isLabelAllowed_1 : decode cX5_isLabelAllowed 1 = .ok (.getfield 21, 3) := by decide +kernel
theorem dX5_isLabelAllowed_4 : decode cX5_isLabelAllowed 4 = .ok (.getfield 85, 3) := by decide +kernel
theorem dX5_isLabelAllowed_7 : decode cX5_isLabelAllowed 7 = .ok (.astore_n 2, 1) := by decide +kernel
theorem dX5_isLabelAllowed_8 : decode cX5_isLabelAllowed 8 = .ok (.aload_n 0, 1) := by decide +kernel
theorem dX5_isLabelAllowed_9 : decode cX5_isLabelAllowed 9 = .ok (.aload_n 0, 1) := by decide +kernel
theorem dX5_isLabelAllowed_10 : decode cX5_isLabelAllowed 10 = .ok (.getfield 21, 3) := by decide +kernel
theorem dX5_isLabelAllowed_13 : decode cX5_isLabelAllowed 13 = .ok (.iload_n 1, 1) := by decide +kernel
theorem dX5_isLabelAllowed_14 : decode cX5_isLabelAllowed 14 = .ok (.invokevirtual 88, 3) := by decide +kernel
theorem dX5_isLabelAllowed_17 : decode cX5_isLabelAllowed 17 = .ok (.aload_n 2, 1) := by decide +kernel
theorem dX5_isLabelAllowed_18 : decode cX5_isLabelAllowed 18 = .ok (.iload_n 1, 1) := by decide +kernel
theorem dX5_isLabelAllowed_19 : decode cX5_isLabelAllowed 19 = .ok (.iconst 3, 1) := by decide +kernel
theorem dX5_isLabelAllowed_20 : decode cX5_isLabelAllowed 20 = .ok (.invokevirtual 81, 3) := by decide +kernel
theorem dX5_isLabelAllowed_23 : decode cX5_isLabelAllowed 23 = .ok (.aload_n 2, 1) := by decide +kernel
theorem dX5_isLabelAllowed_24 : decode cX5_isLabelAllowed 24 = .ok (.iload_n 1, 1) := by decide +kernel
theorem dX5_isLabelAllowed_25 : decode cX5_isLabelAllowed 25 = .ok (.iconst 4, 1) := by decide +kernel
theorem dX5_isLabelAllowed_26 : decode cX5_isLabelAllowed 26 = .ok (.invokevirtual 81, 3) := by decide +kernel
theorem dX5_isLabelAllowed_29 : decode cX5_isLabelAllowed 29 = .ok (.aload_n 2, 1) := by decide +kernel
theorem dX5_isLabelAllowed_30 : decode cX5_isLabelAllowed 30 = .ok (.iload_n 1, 1) := by decide +kernel
theorem dX5_isLabelAllowed_31 : decode cX5_isLabelAllowed 31 = .ok (.iconst 5, 1) := by decide +kernel
theorem dX5_isLabelAllowed_32 : decode cX5_isLabelAllowed 32 = .ok (.invokevirtual 81, 3) := by decide +kernel
theorem dX5_isLabelAllowed_35 : decode cX5_isLabelAllowed 35 = .ok (.aload_n 2, 1) := by decide +kernel
theorem dX5_isLabelAllowed_36 : decode cX5_isLabelAllowed 36 = .ok (.iload_n 1, 1) := by decide +kernel
theorem dX5_isLabelAllowed_37 : decode cX5_isLabelAllowed 37 = .ok (.bipush 6, 2) := by decide +kernel
theorem dX5_isLabelAllowed_39 : decode cX5_isLabelAllowed 39 = .ok (.invokevirtual 81, 3) := by decide +kernel
theorem dX5_isLabelAllowed_42 : decode cX5_isLabelAllowed 42 = .ok (.invokevirtual 62, 3) := by decide +kernel
theorem dX5_isLabelAllowed_45 : decode cX5_isLabelAllowed 45 = .ok (.ifCond .ne 7, 3) := by decide +kernel
theorem dX5_isLabelAllowed_48 : decode cX5_isLabelAllowed 48 = .ok (.iconst 1, 1) := by decide +kernel
theorem dX5_isLabelAllowed_49 : decode cX5_isLabelAllowed 49 = .ok (.goto 4, 3) := by decide +kernel
theorem dX5_isLabelAllowed_52 : decode cX5_isLabelAllowed 52 = .ok (.iconst 0, 1) := by decide +kernel
theorem dX5_isLabelAllowed_53 : decode cX5_isLabelAllowed 53 = .ok (.ireturn, 1) := by decide +kernel
theorem dX6_init_0 : decode cX6_init 0 = .ok (.aload_n 0, 1) := by decide +kernel
theorem dX6_init_1 : decode cX6_init 1 = .ok (.invokespecial 3, 3) := by decide +kernel
theorem dX6_init_4 : decode cX6_init 4 = .ok (.aload_n 0, 1) := by decide +kernel
theorem dX6_init_5 : decode cX6_init 5 = .ok (.iload_n 1, 1) := by decide +kernel
theorem dX6_init_6 : decode cX6_init 6 = .ok (.putfield 9, 3) := by decide +kernel
theorem dX6_init_9 : decode cX6_init 9 = .ok (.aload_n 0, 1) := by decide +kernel
theorem dX6_init_10 : decode cX6_init 10 = .ok (.iload_n 2, 1) := by decide +kernel
theorem dX6_init_11 : decode cX6_init 11 = .ok (.putfield 15, 3) := by decide +kernel
theorem dX6_init_14 : decode cX6_init 14 = .ok (.aload_n 0, 1) := by decide +kernel
theorem dX6_init_15 : decode cX6_init 15 = .ok (.iconst 0, 1) := by decide +kernel
theorem dX6_init_16 : decode cX6_init 16 = .ok (.iload_n 1, 1) := by decide +kernel
theorem dX6_init_17 : decode cX6_init 17 = .ok (.iload_n 2, 1) := by decide +kernel
theorem dX6_init_18 : decode cX6_init 18 = .ok (.imul, 1) := by decide +kernel
theorem dX6_init_19 : decode cX6_init 19 = .ok (.invokestatic 18, 3) := by decide +kernel
theorem dX6_init_22 : decode cX6_init 22 = .ok (.newarray .int, 2) := by decide +kernel
theorem dX6_init_24 : decode cX6_init 24 = .ok (.putfield 24, 3) := by decide +kernel
theorem dX6_init_27 : decode cX6_init 27 = .ok (.return_, 1) := by decide +kernel
theorem dX6_placeOf_0 : decode cX6_placeOf 0 = .ok (.iload_n 1, 1) := by decide +kernel
theorem dX6_placeOf_1 : decode cX6_placeOf 1 = .ok (.ifCond .lt 34, 3) := by decide +kernel
theorem dX6_placeOf_4 : decode cX6_placeOf 4 = .ok (.iload_n 1, 1) := by decide +kernel
theorem dX6_placeOf_5 : decode cX6_placeOf 5 = .ok (.aload_n 0, 1) := by decide +kernel
theorem dX6_placeOf_6 : decode cX6_placeOf 6 = .ok (.getfield 9, 3) := by decide +kernel
theorem dX6_placeOf_9 : decode cX6_placeOf 9 = .ok (.if_icmp .ge 26, 3) := by decide +kernel
theorem dX6_placeOf_12 : decode cX6_placeOf 12 = .ok (.iload_n 2, 1) := by decide +kernel
theorem dX6_placeOf_13 : decode cX6_placeOf 13 = .ok (.ifCond .lt 22, 3) := by decide +kernel
theorem dX6_placeOf_16 : decode cX6_placeOf 16 = .ok (.iload_n 2, 1) := by decide +kernel
theorem dX6_placeOf_17 : decode cX6_placeOf 17 = .ok (.aload_n 0, 1) := by decide +kernel
theorem dX6_placeOf_18 : decode cX6_placeOf 18 = .ok (.getfield 15, 3) := by decide +kernel
theorem dX6_placeOf_21 : decode cX6_placeOf 21 = .ok (.if_icmp .ge 14, 3) := by decide +kernel
theorem dX6_placeOf_24 : decode cX6_placeOf 24 = .ok (.iload_n 1, 1) := by decide +kernel
theorem dX6_placeOf_25 : decode cX6_placeOf 25 = .ok (.aload_n 0, 1) := by decide +kernel
theorem dX6_placeOf_26 : decode cX6_placeOf 26 = .ok (.getfield 15, 3) := by decide +kernel
theorem dX6_placeOf_29 : decode cX6_placeOf 29 = .ok (.imul, 1) := by decide +kernel
theorem dX6_placeOf_30 : decode cX6_placeOf 30 = .ok (.iload_n 2, 1) := by decide +kernel
theorem dX6_placeOf_31 : decode cX6_placeOf 31 = .ok (.iadd, 1) := by decide +kernel
theorem dX6_placeOf_32 : decode cX6_placeOf 32 = .ok (.goto 4, 3) := by decide +kernel
theorem dX6_placeOf_35 : decode cX6_placeOf 35 = .ok (.iconst (-1), 1) := by decide +kernel
theorem dX6_placeOf_36 : decode cX6_placeOf 36 = .ok (.ireturn, 1) := by decide +kernel
theorem dX6_at_0 : decode cX6_at 0 = .ok (.aload_n 0, 1) := by decide +kernel
theorem dX6_at_1 : decode cX6_at 1 = .ok (.iload_n 1, 1) := by decide +kernel
theorem dX6_at_2 : decode cX6_at 2 = .ok (.iload_n 2, 1) := by decide +kernel
theorem dX6_at_3 : decode cX6_at 3 = .ok (.invokevirtual 28, 3) := by decide +kernel
theorem dX6_at_6 : decode cX6_at 6 = .ok (.istore_n 3, 1) := by decide +kernel
theorem dX6_at_7 : decode cX6_at 7 = .ok (.iload_n 3, 1) := by decide +kernel
theorem dX6_at_8 : decode cX6_at 8 = .ok (.ifCond .lt 21, 3) := by decide +kernel
theorem dX6_at_11 : decode cX6_at 11 = .ok (.iload_n 3, 1) := by decide +kernel
theorem dX6_at_12 : decode cX6_at 12 = .ok (.aload_n 0, 1) := by decide +kernel
theorem dX6_at_13 : decode cX6_at 13 = .ok (.getfield 24, 3) := by decide +kernel
theorem dX6_at_16 : decode cX6_at 16 = .ok (.arraylength, 1) := by decide +kernel
theorem dX6_at_17 : decode cX6_at 17 = .ok (.if_icmp .ge 12, 3) := by decide +kernel
theorem dX6_at_20 : decode cX6_at 20 = .ok (.aload_n 0, 1) := by decide +kernel
theorem dX6_at_21 : decode cX6_at 21 = .ok (.getfield 24, 3) := by decide +kernel
theorem dX6_at_24 : decode cX6_at 24 = .ok (.iload_n 3, 1) := by decide +kernel
theorem dX6_at_25 : decode cX6_at 25 = .ok (.iaload, 1) := by decide +kernel
theorem dX6_at_26 : decode cX6_at 26 = .ok (.goto 4, 3) := by decide +kernel
theorem dX6_at_29 : decode cX6_at 29 = .ok (.iconst 0, 1) := by decide +kernel
theorem dX6_at_30 : decode cX6_at 30 = .ok (.ireturn, 1) := by decide +kernel
theorem dX6_put_0 : decode cX6_put 0 = .ok (.aload_n 0, 1) := by decide +kernel
theorem dX6_put_1 : decode cX6_put 1 = .ok (.iload_n 1, 1) := by decide +kernel
theorem dX6_put_2 : decode cX6_put 2 = .ok (.iload_n 2, 1) := by decide +kernel
theorem dX6_put_3 : decode cX6_put 3 = .ok (.invokevirtual 28, 3) := by decide +kernel
theorem dX6_put_6 : decode cX6_put 6 = .ok (.istore 4, 2) := by decide +kernel
theorem dX6_put_8 : decode cX6_put 8 = .ok (.iload 4, 2) := by decide +kernel
theorem dX6_put_10 : decode cX6_put 10 = .ok (.ifCond .lt 21, 3) := by decide +kernel
theorem dX6_put_13 : decode cX6_put 13 = .ok (.iload 4, 2) := by decide +kernel
theorem dX6_put_15 : decode cX6_put 15 = .ok (.aload_n 0, 1) := by decide +kernel
theorem dX6_put_16 : decode cX6_put 16 = .ok (.getfield 24, 3) := by decide +kernel
theorem dX6_put_19 : decode cX6_put 19 = .ok (.arraylength, 1) := by decide +kernel
theorem dX6_put_20 : decode cX6_put 20 = .ok (.if_icmp .ge 11, 3) := by decide +kernel
theorem dX6_put_23 : decode cX6_put 23 = .ok (.aload_n 0, 1) := by decide +kernel
theorem dX6_put_24 : decode cX6_put 24 = .ok (.getfield 24, 3) := by decide +kernel
theorem dX6_put_27 : decode cX6_put 27 = .ok (.iload 4, 2) := by decide +kernel
theorem dX6_put_29 : decode cX6_put 29 = .ok (.iload_n 3, 1) := by decide +kernel
theorem dX6_put_30 : decode cX6_put 30 = .ok (.iastore, 1) := by decide +kernel
theorem dX6_put_31 : decode cX6_put 31 = .ok (.return_, 1) := by decide +kernel
theorem dX6_add_0 : decode cX6_add 0 = .ok (.aload_n 0, 1) := by decide +kernel
theorem dX6_add_1 : decode cX6_add 1 = .ok (.iload_n 1, 1) := by decide +kernel
theorem dX6_add_2 : decode cX6_add 2 = .ok (.iload_n 2, 1) := by decide +kernel
theorem dX6_add_3 : decode cX6_add 3 = .ok (.aload_n 0, 1) := by decide +kernel
theorem dX6_add_4 : decode cX6_add 4 = .ok (.iload_n 1, 1) := by decide +kernel
theorem dX6_add_5 : decode cX6_add 5 = .ok (.iload_n 2, 1) := by decide +kernel
theorem dX6_add_6 : decode cX6_add 6 = .ok (.invokevirtual 31, 3) := by decide +kernel
theorem dX6_add_9 : decode cX6_add 9 = .ok (.iload_n 3, 1) := by decide +kernel
theorem dX6_add_10 : decode cX6_add 10 = .ok (.iadd, 1) := by decide +kernel
theorem dX6_add_11 : decode cX6_add 11 = .ok (.invokevirtual 34, 3) := by decide +kernel
theorem dX6_add_14 : decode cX6_add 14 = .ok (.return_, 1) := by decide +kernel
theorem dX6_copyFrom_0 : decode cX6_copyFrom 0 = .ok (.aload_n 1, 1) := by decide +kernel
theorem dX6_copyFrom_1 : decode cX6_copyFrom 1 = .ok (.getfield 24, 3) := by decide +kernel
theorem dX6_copyFrom_4 : decode cX6_copyFrom 4 = .ok (.iconst 0, 1) := by decide +kernel
theorem dX6_copyFrom_5 : decode cX6_copyFrom 5 = .ok (.aload_n 0, 1) := by decide +kernel
theorem dX6_copyFrom_6 : decode cX6_copyFrom 6 = .ok (.getfield 24, 3) := by decide +kernel
theorem dX6_copyFrom_9 : decode cX6_copyFrom 9 = .ok (.iconst 0, 1) := by decide +kernel
theorem dX6_copyFrom_10 : decode cX6_copyFrom 10 = .ok (.aload_n 0, 1) := by decide +kernel
theorem dX6_copyFrom_11 : decode cX6_copyFrom 11 = .ok (.getfield 24, 3) := by decide +kernel
theorem dX6_copyFrom_14 : decode cX6_copyFrom 14 = .ok (.arraylength, 1) := by decide +kernel
theorem dX6_copyFrom_15 : decode cX6_copyFrom 15 = .ok (.aload_n 1, 1) := by decide +kernel
theorem dX6_copyFrom_16 : decode cX6_copyFrom 16 = .ok (.getfield 24, 3) := by decide +kernel
theorem dX6_copyFrom_19 : decode cX6_copyFrom 19 = .ok (.arraylength, 1) := by decide +kernel
theorem dX6_copyFrom_20 : decode cX6_copyFrom 20 = .ok (.invokestatic 38, 3) := by decide +kernel
theorem dX6_copyFrom_23 : decode cX6_copyFrom 23 = .ok (.invokestatic 41, 3) := by decide +kernel
theorem dX6_copyFrom_26 : decode cX6_copyFrom 26 = .ok (.return_, 1) := by decide +kernel
theorem dX6_sumOfColumn_0 : decode cX6_sumOfColumn 0 = .ok (.iconst 0, 1) := by decide +kernel
theorem dX6_sumOfColumn_1 : decode cX6_sumOfColumn 1 = .ok (.istore_n 2, 1) := by decide +kernel
theorem dX6_sumOfColumn_2 : decode cX6_sumOfColumn 2 = .ok (.iconst 0, 1) := by decide +kernel
theorem dX6_sumOfColumn_3 : decode cX6_sumOfColumn 3 = .ok (.istore_n 3, 1) := by decide +kernel
theorem dX6_sumOfColumn_4 : decode cX6_sumOfColumn 4 = .ok (.iload_n 3, 1) := by decide +kernel
theorem dX6_sumOfColumn_5 : decode cX6_sumOfColumn 5 = .ok (.aload_n 0, 1) := by decide +kernel
theorem dX6_sumOfColumn_6 : decode cX6_sumOfColumn 6 = .ok (.getfield 9, 3) := by decide +kernel
theorem dX6_sumOfColumn_9 : decode cX6_sumOfColumn 9 = .ok (.if_icmp .ge 18, 3) := by decide +kernel
theorem dX6_sumOfColumn_12 : decode cX6_sumOfColumn 12 = .ok (.iload_n 2, 1) := by decide +kernel
theorem dX6_sumOfColumn_13 : decode cX6_sumOfColumn 13 = .ok (.aload_n 0, 1) := by decide +kernel
theorem dX6_sumOfColumn_14 : decode cX6_sumOfColumn 14 = .ok (.iload_n 3, 1) := by decide +kernel
theorem dX6_sumOfColumn_15 : decode cX6_sumOfColumn 15 = .ok (.iload_n 1, 1) := by decide +kernel
theorem dX6_sumOfColumn_16 : decode cX6_sumOfColumn 16 = .ok (.invokevirtual 31, 3) := by decide +kernel
theorem dX6_sumOfColumn_19 : decode cX6_sumOfColumn 19 = .ok (.iadd, 1) := by decide +kernel
theorem dX6_sumOfColumn_20 : decode cX6_sumOfColumn 20 = .ok (.istore_n 2, 1) := by decide +kernel
theorem dX6_sumOfColumn_21 : decode cX6_sumOfColumn 21 = .ok (.iinc 3 1, 3) := by decide +kernel
theorem dX6_sumOfColumn_24 : decode cX6_sumOfColumn 24 = .ok (.goto (-20), 3) := by decide +kernel
theorem dX6_sumOfColumn_27 : decode cX6_sumOfColumn 27 = .ok (.iload_n 2, 1) := by decide +kernel
theorem dX6_sumOfColumn_28 : decode cX6_sumOfColumn 28 = .ok (.ireturn, 1) := by decide +kernel
theorem dX6_rankOf_0 : decode cX6_rankOf 0 = .ok (.aload_n 0, 1) := by decide +kernel
theorem dX6_rankOf_1 : decode cX6_rankOf 1 = .ok (.iload_n 1, 1) := by decide +kernel
theorem dX6_rankOf_2 : decode cX6_rankOf 2 = .ok (.iload_n 2, 1) := by decide +kernel
theorem dX6_rankOf_3 : decode cX6_rankOf 3 = .ok (.invokevirtual 31, 3) := by decide +kernel
theorem dX6_rankOf_6 : decode cX6_rankOf 6 = .ok (.istore_n 3, 1) := by decide +kernel
theorem dX6_rankOf_7 : decode cX6_rankOf 7 = .ok (.iconst 0, 1) := by decide +kernel
theorem dX6_rankOf_8 : decode cX6_rankOf 8 = .ok (.istore 4, 2) := by decide +kernel
theorem dX6_rankOf_10 : decode cX6_rankOf 10 = .ok (.iconst 0, 1) := by decide +kernel
theorem dX6_rankOf_11 : decode cX6_rankOf 11 = .ok (.istore 5, 2) := by decide +kernel
theorem dX6_rankOf_13 : decode cX6_rankOf 13 = .ok (.iload 5, 2) := by decide +kernel
theorem dX6_rankOf_15 : decode cX6_rankOf 15 = .ok (.aload_n 0, 1) := by decide +kernel
theorem dX6_rankOf_16 : decode cX6_rankOf 16 = .ok (.getfield 15, 3) := by decide +kernel
theorem dX6_rankOf_19 : decode cX6_rankOf 19 = .ok (.if_icmp .ge 39, 3) := by decide +kernel
theorem dX6_rankOf_22 : decode cX6_rankOf 22 = .ok (.aload_n 0, 1) := by decide +kernel
theorem dX6_rankOf_23 : decode cX6_rankOf 23 = .ok (.iload_n 1, 1) := by decide +kernel
theorem dX6_rankOf_24 : decode cX6_rankOf 24 = .ok (.iload 5, 2) := by decide +kernel
theorem dX6_rankOf_26 : decode cX6_rankOf 26 = .ok (.invokevirtual 31, 3) := by decide +kernel
theorem dX6_rankOf_29 : decode cX6_rankOf 29 = .ok (.istore 6, 2) := by decide +kernel
theorem dX6_rankOf_31 : decode cX6_rankOf 31 = .ok (.iload 6, 2) := by decide +kernel
theorem dX6_rankOf_33 : decode cX6_rankOf 33 = .ok (.iload_n 3, 1) := by decide +kernel
theorem dX6_rankOf_34 : decode cX6_rankOf 34 = .ok (.if_icmp .gt 15, 3) := by decide +kernel
theorem dX6_rankOf_37 : decode cX6_rankOf 37 = .ok (.iload 6, 2) := by decide +kernel
theorem dX6_rankOf_39 : decode cX6_rankOf 39 = .ok (.iload_n 3, 1) := by decide +kernel
theorem dX6_rankOf_40 : decode cX6_rankOf 40 = .ok (.if_icmp .ne 12, 3) := by decide +kernel
theorem dX6_rankOf_43 : decode cX6_rankOf 43 = .ok (.iload 5, 2) := by decide +kernel
theorem dX6_rankOf_45 : decode cX6_rankOf 45 = .ok (.iload_n 2, 1) := by decide +kernel
theorem dX6_rankOf_46 : decode cX6_rankOf 46 = .ok (.if_icmp .ge 6, 3) := by decide +kernel
theorem dX6_rankOf_49 : decode cX6_rankOf 49 = .ok (.iinc 4 1, 3) := by decide +kernel
theorem dX6_rankOf_52 : decode cX6_rankOf 52 = .ok (.iinc 5 1, 3) := by decide +kernel
theorem dX6_rankOf_55 : decode cX6_rankOf 55 = .ok (.goto (-42), 3) := by decide +kernel
theorem dX6_rankOf_58 : decode cX6_rankOf 58 = .ok (.iload 4, 2) := by decide +kernel
theorem dX6_rankOf_60 : decode cX6_rankOf 60 = .ok (.ireturn, 1) := by decide +kernel
theorem dX6_columnAtRank_0 : decode cX6_columnAtRank 0 = .ok (.iconst 0, 1) := by decide +kernel
theorem dX6_columnAtRank_1 : decode cX6_columnAtRank 1 = .ok (.istore_n 3, 1) := by decide +kernel
theorem dX6_columnAtRank_2 : decode cX6_columnAtRank 2 = .ok (.iload_n 3, 1) := by decide +kernel
theorem dX6_columnAtRank_3 : decode cX6_columnAtRank 3 = .ok (.aload_n 0, 1) := by decide +kernel
theorem dX6_columnAtRank_4 : decode cX6_columnAtRank 4 = .ok (.getfield 15, 3) := by decide +kernel
theorem dX6_columnAtRank_7 : decode cX6_columnAtRank 7 = .ok (.if_icmp .ge 21, 3) := by decide +kernel
theorem dX6_columnAtRank_10 : decode cX6_columnAtRank 10 = .ok (.aload_n 0, 1) := by decide +kernel
theorem dX6_columnAtRank_11 : decode cX6_columnAtRank 11 = .ok (.iload_n 1, 1) := by decide +kernel
theorem dX6_columnAtRank_12 : decode cX6_columnAtRank 12 = .ok (.iload_n 3, 1) := by decide +kernel
theorem dX6_columnAtRank_13 : decode cX6_columnAtRank 13 = .ok (.invokevirtual 47, 3) := by decide +kernel
theorem dX6_columnAtRank_16 : decode cX6_columnAtRank 16 = .ok (.iload_n 2, 1) := by decide +kernel
theorem dX6_columnAtRank_17 : decode cX6_columnAtRank 17 = .ok (.if_icmp .ne 5, 3) := by decide +kernel
theorem dX6_columnAtRank_20 : decode cX6_columnAtRank 20 = .ok (.iload_n 3, 1) := by decide +kernel
theorem dX6_columnAtRank_21 : decode cX6_columnAtRank 21 = .ok (.ireturn, 1) := by decide +kernel
theorem dX6_columnAtRank_22 : decode cX6_columnAtRank 22 = .ok (.iinc 3 1, 3) := by decide +kernel
theorem dX6_columnAtRank_25 : decode cX6_columnAtRank 25 = .ok (.goto (-23), 3) := by decide +kernel
theorem dX6_columnAtRank_28 : decode cX6_columnAtRank 28 = .ok (.iconst (-1), 1) := by decide +kernel
theorem dX6_columnAtRank_29 : decode cX6_columnAtRank 29 = .ok (.ireturn, 1) := by decide +kernel
theorem dX6_columnOf_0 : decode cX6_columnOf 0 = .ok (.iconst 0, 1) := by decide +kernel
theorem dX6_columnOf_1 : decode cX6_columnOf 1 = .ok (.istore_n 3, 1) := by decide +kernel
theorem dX6_columnOf_2 : decode cX6_columnOf 2 = .ok (.iload_n 3, 1) := by decide +kernel
theorem dX6_columnOf_3 : decode cX6_columnOf 3 = .ok (.iload_n 2, 1) := by decide +kernel
theorem dX6_columnOf_4 : decode cX6_columnOf 4 = .ok (.if_icmp .ge 21, 3) := by decide +kernel
theorem dX6_columnOf_7 : decode cX6_columnOf 7 = .ok (.aload_n 0, 1) := by decide +kernel
theorem dX6_columnOf_8 : decode cX6_columnOf 8 = .ok (.iconst 0, 1) := by decide +kernel
theorem dX6_columnOf_9 : decode cX6_columnOf 9 = .ok (.iload_n 3, 1) := by decide +kernel
theorem dX6_columnOf_10 : decode cX6_columnOf 10 = .ok (.invokevirtual 31, 3) := by decide +kernel
theorem dX6_columnOf_13 : decode cX6_columnOf 13 = .ok (.iload_n 1, 1) := by decide +kernel
theorem dX6_columnOf_14 : decode cX6_columnOf 14 = .ok (.if_icmp .ne 5, 3) := by decide +kernel
theorem dX6_columnOf_17 : decode cX6_columnOf 17 = .ok (.iload_n 3, 1) := by decide +kernel
theorem dX6_columnOf_18 : decode cX6_columnOf 18 = .ok (.ireturn, 1) := by decide +kernel
theorem dX6_columnOf_19 : decode cX6_columnOf 19 = .ok (.iinc 3 1, 3) := by decide +kernel
theorem dX6_columnOf_22 : decode cX6_columnOf 22 = .ok (.goto (-20), 3) := by decide +kernel
theorem dX6_columnOf_25 : decode cX6_columnOf 25 = .ok (.iconst (-1), 1) := by decide +kernel
theorem dX6_columnOf_26 : decode cX6_columnOf 26 = .ok (.ireturn, 1) := by decide +kernel
theorem dX7_init_0 : decode cX7_init 0 = .ok (.aload_n 0, 1) := by decide +kernel
theorem dX7_init_1 : decode cX7_init 1 = .ok (.invokespecial 1, 3) := by decide +kernel
theorem dX7_init_4 : decode cX7_init 4 = .ok (.aload_n 0, 1) := by decide +kernel
theorem dX7_init_5 : decode cX7_init 5 = .ok (.new 7, 3) := by decide +kernel
theorem dX7_init_8 : decode cX7_init 8 = .ok (.dup, 1) := by decide +kernel
theorem dX7_init_9 : decode cX7_init 9 = .ok (.invokespecial 9, 3) := by decide +kernel
theorem dX7_init_12 : decode cX7_init 12 = .ok (.putfield 10, 3) := by decide +kernel
theorem dX7_init_15 : decode cX7_init 15 = .ok (.aload_n 0, 1) := by decide +kernel
theorem dX7_init_16 : decode cX7_init 16 = .ok (.new 7, 3) := by decide +kernel
theorem dX7_init_19 : decode cX7_init 19 = .ok (.dup, 1) := by decide +kernel
theorem dX7_init_20 : decode cX7_init 20 = .ok (.invokespecial 9, 3) := by decide +kernel
theorem dX7_init_23 : decode cX7_init 23 = .ok (.putfield 16, 3) := by decide +kernel
theorem dX7_init_26 : decode cX7_init 26 = .ok (.aload_n 0, 1) := by decide +kernel
theorem dX7_init_27 : decode cX7_init 27 = .ok (.new 19, 3) := by decide +kernel
theorem dX7_init_30 : decode cX7_init 30 = .ok (.dup, 1) := by decide +kernel
theorem dX7_init_31 : decode cX7_init 31 = .ok (.invokespecial 21, 3) := by decide +kernel
theorem dX7_init_34 : decode cX7_init 34 = .ok (.putfield 22, 3) := by decide +kernel
theorem dX7_init_37 : decode cX7_init 37 = .ok (.aload_n 0, 1) := by decide +kernel
theorem dX7_init_38 : decode cX7_init 38 = .ok (.new 26, 3) := by decide +kernel
theorem dX7_init_41 : decode cX7_init 41 = .ok (.dup, 1) := by decide +kernel
theorem dX7_init_42 : decode cX7_init 42 = .ok (.invokespecial 28, 3) := by decide +kernel
theorem dX7_init_45 : decode cX7_init 45 = .ok (.putfield 29, 3) := by decide +kernel
theorem dX7_init_48 : decode cX7_init 48 = .ok (.aload_n 0, 1) := by decide +kernel
theorem dX7_init_49 : decode cX7_init 49 = .ok (.new 33, 3) := by decide +kernel
theorem dX7_init_52 : decode cX7_init 52 = .ok (.dup, 1) := by decide +kernel
theorem dX7_init_53 : decode cX7_init 53 = .ok (.iconst 1, 1) := by decide +kernel
theorem dX7_init_54 : decode cX7_init 54 = .ok (.bipush 8, 2) := by decide +kernel
theorem dX7_init_56 : decode cX7_init 56 = .ok (.invokespecial 35, 3) := by decide +kernel
theorem dX7_init_59 : decode cX7_init 59 = .ok (.putfield 38, 3) := by decide +kernel
theorem dX7_init_62 : decode cX7_init 62 = .ok (.aload_n 0, 1) := by decide +kernel
theorem dX7_init_63 : decode cX7_init 63 = .ok (.new 33, 3) := by decide +kernel
theorem dX7_init_66 : decode cX7_init 66 = .ok (.dup, 1) := by decide +kernel
theorem dX7_init_67 : decode cX7_init 67 = .ok (.iconst 1, 1) := by decide +kernel
theorem dX7_init_68 : decode cX7_init 68 = .ok (.bipush 12, 2) := by decide +kernel
theorem dX7_init_70 : decode cX7_init 70 = .ok (.invokespecial 35, 3) := by decide +kernel
theorem dX7_init_73 : decode cX7_init 73 = .ok (.putfield 42, 3) := by decide +kernel
theorem dX7_init_76 : decode cX7_init 76 = .ok (.aload_n 0, 1) := by decide +kernel
theorem dX7_init_77 : decode cX7_init 77 = .ok (.new 33, 3) := by decide +kernel
theorem dX7_init_80 : decode cX7_init 80 = .ok (.dup, 1) := by decide +kernel
theorem dX7_init_81 : decode cX7_init 81 = .ok (.iconst 1, 1) := by decide +kernel
theorem dX7_init_82 : decode cX7_init 82 = .ok (.bipush 24, 2) := by decide +kernel
theorem dX7_init_84 : decode cX7_init 84 = .ok (.invokespecial 35, 3) := by decide +kernel
theorem dX7_init_87 : decode cX7_init 87 = .ok (.putfield 45, 3) := by decide +kernel
theorem dX7_init_90 : decode cX7_init 90 = .ok (.aload_n 0, 1) := by decide +kernel
theorem dX7_init_91 : decode cX7_init 91 = .ok (.iconst 0, 1) := by decide +kernel
theorem dX7_init_92 : decode cX7_init 92 = .ok (.putfield 48, 3) := by decide +kernel
theorem dX7_init_95 : decode cX7_init 95 = .ok (.aload_n 0, 1) := by decide +kernel
theorem dX7_init_96 : decode cX7_init 96 = .ok (.iconst (-1), 1) := by decide +kernel
theorem dX7_init_97 : decode cX7_init 97 = .ok (.putfield 52, 3) := by decide +kernel
theorem dX7_init_100 : decode cX7_init 100 = .ok (.aload_n 0, 1) := by decide +kernel
theorem dX7_init_101 : decode cX7_init 101 = .ok (.iconst (-1), 1) := by decide +kernel
theorem dX7_init_102 : decode cX7_init 102 = .ok (.putfield 56, 3) := by decide +kernel
theorem dX7_init_105 : decode cX7_init 105 = .ok (.return_, 1) := by decide +kernel
theorem dX7_harvest_0 : decode cX7_harvest 0 = .ok (.iload_n 1, 1) := by decide +kernel
theorem dX7_harvest_1 : decode cX7_harvest 1 = .ok (.iconst 0, 1) := by decide +kernel
theorem dX7_harvest_2 : decode cX7_harvest 2 = .ok (.bipush 99, 2) := by decide +kernel
theorem dX7_harvest_4 : decode cX7_harvest 4 = .ok (.invokestatic 59, 3) := by decide +kernel
theorem dX7_harvest_7 : decode cX7_harvest 7 = .ok (.iload_n 2, 1) := by decide +kernel
theorem dX7_harvest_8 : decode cX7_harvest 8 = .ok (.iconst 0, 1) := by decide +kernel
theorem dX7_harvest_9 : decode cX7_harvest 9 = .ok (.iconst 4, 1) := by decide +kernel
theorem dX7_harvest_10 : decode cX7_harvest 10 = .ok (.invokestatic 59, 3) := by decide +kernel
theorem dX7_harvest_13 : decode cX7_harvest 13 = .ok (.iload_n 3, 1) := by decide +kernel
theorem dX7_harvest_14 : decode cX7_harvest 14 = .ok (.iconst 0, 1) := by decide +kernel
theorem dX7_harvest_15 : decode cX7_harvest 15 = .ok (.iconst 3, 1) := by decide +kernel
theorem dX7_harvest_16 : decode cX7_harvest 16 = .ok (.invokestatic 59, 3) := by decide +kernel
theorem dX7_harvest_19 : decode cX7_harvest 19 = .ok (.iload 4, 2) := by decide +kernel
theorem dX7_harvest_21 : decode cX7_harvest 21 = .ok (.iconst 1, 1) := by decide +kernel
theorem dX7_harvest_22 : decode cX7_harvest 22 = .ok (.sipush 9999, 3) := by decide +kernel
theorem dX7_harvest_25 : decode cX7_harvest 25 = .ok (.invokestatic 59, 3) := by decide +kernel
theorem dX7_harvest_28 : decode cX7_harvest 28 = .ok (.aload_n 0, 1) := by decide +kernel
theorem dX7_harvest_29 : decode cX7_harvest 29 = .ok (.getfield 10, 3) := by decide +kernel
theorem dX7_harvest_32 : decode cX7_harvest 32 = .ok (.getfield 63, 3) := by decide +kernel
theorem dX7_harvest_35 : decode cX7_harvest 35 = .ok (.getfield 67, 3) := by decide +kernel
theorem dX7_harvest_38 : decode cX7_harvest 38 = .ok (.bipush 24, 2) := by decide +kernel
theorem dX7_harvest_40 : decode cX7_harvest 40 = .ok (.if_icmp .ge 18, 3) := by decide +kernel
theorem dX7_harvest_43 : decode cX7_harvest 43 = .ok (.aload_n 0, 1) := by decide +kernel
theorem dX7_harvest_44 : decode cX7_harvest 44 = .ok (.getfield 10, 3) := by decide +kernel
theorem dX7_harvest_47 : decode cX7_harvest 47 = .ok (.getfield 63, 3) := by decide +kernel
theorem dX7_harvest_50 : decode cX7_harvest 50 = .ok (.getfield 72, 3) := by decide +kernel
theorem dX7_harvest_53 : decode cX7_harvest 53 = .ok (.bipush 12, 2) := by decide +kernel
theorem dX7_harvest_55 : decode cX7_harvest 55 = .ok (.if_icmp .lt 13, 3) := by decide +kernel
theorem dX7_harvest_58 : decode cX7_harvest 58 = .ok (.new 75, 3) := by decide +kernel
theorem dX7_harvest_61 : decode cX7_harvest 61 = .ok (.dup, 1) := by decide +kernel
theorem dX7_harvest_62 : decode cX7_harvest 62 = .ok (.ldc 77, 2) := by decide +kernel
theorem dX7_harvest_64 : decode cX7_harvest 64 = .ok (.invokespecial 79, 3) := by decide +kernel
theorem dX7_harvest_67 : decode cX7_harvest 67 = .ok (.athrow, 1) := by decide +kernel
theorem dX7_harvest_68 : decode cX7_harvest 68 = .ok (.aload_n 0, 1) := by decide +kernel
theorem dX7_harvest_69 : decode cX7_harvest 69 = .ok (.getfield 22, 3) := by decide +kernel
theorem dX7_harvest_72 : decode cX7_harvest 72 = .ok (.aload_n 0, 1) := by decide +kernel
theorem dX7_harvest_73 : decode cX7_harvest 73 = .ok (.getfield 10, 3) := by decide +kernel
theorem dX7_harvest_76 : decode cX7_harvest 76 = .ok (.invokevirtual 82, 3) := by decide +kernel
theorem dX7_harvest_79 : decode cX7_harvest 79 = .ok (.aload_n 0, 1) := by decide +kernel
theorem dX7_harvest_80 : decode cX7_harvest 80 = .ok (.getfield 10, 3) := by decide +kernel
theorem dX7_harvest_83 : decode cX7_harvest 83 = .ok (.getfield 63, 3) := by decide +kernel
theorem dX7_harvest_86 : decode cX7_harvest 86 = .ok (.iload_n 1, 1) := by decide +kernel
theorem dX7_harvest_87 : decode cX7_harvest 87 = .ok (.iload_n 2, 1) := by decide +kernel
theorem dX7_harvest_88 : decode cX7_harvest 88 = .ok (.iload_n 3, 1) := by decide +kernel
theorem dX7_harvest_89 : decode cX7_harvest 89 = .ok (.iload 4, 2) := by decide +kernel
theorem dX7_harvest_91 : decode cX7_harvest 91 = .ok (.invokevirtual 86, 3) := by decide +kernel
theorem dX7_harvest_94 : decode cX7_harvest 94 = .ok (.ireturn, 1) := by decide +kernel
theorem dX7_blend_0 : decode cX7_blend 0 = .ok (.aload_n 0, 1) := by decide +kernel
theorem dX7_blend_1 : decode cX7_blend 1 = .ok (.getfield 29, 3) := by decide +kernel
theorem dX7_blend_4 : decode cX7_blend 4 = .ok (.invokevirtual 90, 3) := by decide +kernel
theorem dX7_blend_7 : decode cX7_blend 7 = .ok (.istore_n 1, 1) := by decide +kernel
theorem dX7_blend_8 : decode cX7_blend 8 = .ok (.aload_n 0, 1) := by decide +kernel
theorem dX7_blend_9 : decode cX7_blend 9 = .ok (.getfield 29, 3) := by decide +kernel
theorem dX7_blend_12 : decode cX7_blend 12 = .ok (.iconst 0, 1) := by decide +kernel
theorem dX7_blend_13 : decode cX7_blend 13 = .ok (.putfield 94, 3) := by decide +kernel
theorem dX7_blend_16 : decode cX7_blend 16 = .ok (.iload_n 1, 1) := by decide +kernel
theorem dX7_blend_17 : decode cX7_blend 17 = .ok (.ifCond .ne 24, 3) := by decide +kernel
theorem dX7_blend_20 : decode cX7_blend 20 = .ok (.aload_n 0, 1) := by decide +kernel
theorem dX7_blend_21 : decode cX7_blend 21 = .ok (.aload_n 0, 1) := by decide +kernel
theorem dX7_blend_22 : decode cX7_blend 22 = .ok (.getfield 29, 3) := by decide +kernel
theorem dX7_blend_25 : decode cX7_blend 25 = .ok (.getfield 97, 3) := by decide +kernel
theorem dX7_blend_28 : decode cX7_blend 28 = .ok (.putfield 56, 3) := by decide +kernel
theorem dX7_blend_31 : decode cX7_blend 31 = .ok (.new 100, 3) := by decide +kernel
theorem dX7_blend_34 : decode cX7_blend 34 = .ok (.dup, 1) := by decide +kernel
theorem dX7_blend_35 : decode cX7_blend 35 = .ok (.ldc 102, 2) := by decide +kernel
theorem dX7_blend_37 : decode cX7_blend 37 = .ok (.invokespecial 104, 3) := by decide +kernel
theorem dX7_blend_40 : decode cX7_blend 40 = .ok (.athrow, 1) := by decide +kernel
theorem dX7_blend_41 : decode cX7_blend 41 = .ok (.aload_n 0, 1) := by decide +kernel
theorem dX7_blend_42 : decode cX7_blend 42 = .ok (.getfield 29, 3) := by decide +kernel
theorem dX7_blend_45 : decode cX7_blend 45 = .ok (.invokevirtual 105, 3) := by decide +kernel
theorem dX7_blend_48 : decode cX7_blend 48 = .ok (.ifCond .eq 13, 3) := by decide +kernel
theorem dX7_blend_51 : decode cX7_blend 51 = .ok (.new 100, 3) := by decide +kernel
theorem dX7_blend_54 : decode cX7_blend 54 = .ok (.dup, 1) := by decide +kernel
theorem dX7_blend_55 : decode cX7_blend 55 = .ok (.ldc 108, 2) := by decide +kernel
theorem dX7_blend_57 : decode cX7_blend 57 = .ok (.invokespecial 104, 3) := by decide +kernel
theorem dX7_blend_60 : decode cX7_blend 60 = .ok (.athrow, 1) := by decide +kernel
theorem dX7_blend_61 : decode cX7_blend 61 = .ok (.aload_n 0, 1) := by decide +kernel
theorem dX7_blend_62 : decode cX7_blend 62 = .ok (.aload_n 0, 1) := by decide +kernel
theorem dX7_blend_63 : decode cX7_blend 63 = .ok (.getfield 10, 3) := by decide +kernel
theorem dX7_blend_66 : decode cX7_blend 66 = .ok (.getfield 63, 3) := by decide +kernel
theorem dX7_blend_69 : decode cX7_blend 69 = .ok (.aload_n 0, 1) := by decide +kernel
theorem dX7_blend_70 : decode cX7_blend 70 = .ok (.getfield 29, 3) := by decide +kernel
theorem dX7_blend_73 : decode cX7_blend 73 = .ok (.invokevirtual 110, 3) := by decide +kernel
theorem dX7_blend_76 : decode cX7_blend 76 = .ok (.invokevirtual 114, 3) := by decide +kernel
theorem dX7_blend_79 : decode cX7_blend 79 = .ok (.aload_n 0, 1) := by decide +kernel
theorem dX7_blend_80 : decode cX7_blend 80 = .ok (.getfield 22, 3) := by decide +kernel
theorem dX7_blend_83 : decode cX7_blend 83 = .ok (.aload_n 0, 1) := by decide +kernel
theorem dX7_blend_84 : decode cX7_blend 84 = .ok (.getfield 10, 3) := by decide +kernel
theorem dX7_blend_87 : decode cX7_blend 87 = .ok (.invokevirtual 82, 3) := by decide +kernel
theorem dX7_blend_90 : decode cX7_blend 90 = .ok (.aload_n 0, 1) := by decide +kernel
theorem dX7_blend_91 : decode cX7_blend 91 = .ok (.getfield 10, 3) := by decide +kernel
theorem dX7_blend_94 : decode cX7_blend 94 = .ok (.getfield 63, 3) := by decide +kernel
theorem dX7_blend_97 : decode cX7_blend 97 = .ok (.aload_n 0, 1) := by decide +kernel
theorem dX7_blend_98 : decode cX7_blend 98 = .ok (.getfield 29, 3) := by decide +kernel
theorem dX7_blend_101 : decode cX7_blend 101 = .ok (.aload_n 0, 1) := by decide +kernel
theorem dX7_blend_102 : decode cX7_blend 102 = .ok (.getfield 42, 3) := by decide +kernel
theorem dX7_blend_105 : decode cX7_blend 105 = .ok (.invokevirtual 118, 3) := by decide +kernel
theorem dX7_blend_108 : decode cX7_blend 108 = .ok (.ireturn, 1) := by decide +kernel
theorem dX7_spill_0 : decode cX7_spill 0 = .ok (.aload_n 0, 1) := by decide +kernel
theorem dX7_spill_1 : decode cX7_spill 1 = .ok (.iload_n 1, 1) := by decide +kernel
theorem dX7_spill_2 : decode cX7_spill 2 = .ok (.invokevirtual 122, 3) := by decide +kernel
theorem dX7_spill_5 : decode cX7_spill 5 = .ok (.iload_n 2, 1) := by decide +kernel
theorem dX7_spill_6 : decode cX7_spill 6 = .ok (.iconst 1, 1) := by decide +kernel
theorem dX7_spill_7 : decode cX7_spill 7 = .ok (.sipush 9999, 3) := by decide +kernel
theorem dX7_spill_10 : decode cX7_spill 10 = .ok (.aload_n 0, 1) := by decide +kernel
theorem dX7_spill_11 : decode cX7_spill 11 = .ok (.getfield 10, 3) := by decide +kernel
theorem dX7_spill_14 : decode cX7_spill 14 = .ok (.getfield 63, 3) := by decide +kernel
theorem dX7_spill_17 : decode cX7_spill 17 = .ok (.iload_n 1, 1) := by decide +kernel
theorem dX7_spill_18 : decode cX7_spill 18 = .ok (.invokevirtual 125, 3) := by decide +kernel
theorem dX7_spill_21 : decode cX7_spill 21 = .ok (.invokestatic 129, 3) := by decide +kernel
theorem dX7_spill_24 : decode cX7_spill 24 = .ok (.invokestatic 59, 3) := by decide +kernel
theorem dX7_spill_27 : decode cX7_spill 27 = .ok (.aload_n 0, 1) := by decide +kernel
theorem dX7_spill_28 : decode cX7_spill 28 = .ok (.getfield 22, 3) := by decide +kernel
theorem dX7_spill_31 : decode cX7_spill 31 = .ok (.aload_n 0, 1) := by decide +kernel
theorem dX7_spill_32 : decode cX7_spill 32 = .ok (.getfield 10, 3) := by decide +kernel
theorem dX7_spill_35 : decode cX7_spill 35 = .ok (.invokevirtual 82, 3) := by decide +kernel
theorem dX7_spill_38 : decode cX7_spill 38 = .ok (.aload_n 0, 1) := by decide +kernel
theorem dX7_spill_39 : decode cX7_spill 39 = .ok (.getfield 10, 3) := by decide +kernel
theorem dX7_spill_42 : decode cX7_spill 42 = .ok (.getfield 63, 3) := by decide +kernel
theorem dX7_spill_45 : decode cX7_spill 45 = .ok (.iload_n 1, 1) := by decide +kernel
theorem dX7_spill_46 : decode cX7_spill 46 = .ok (.iload_n 2, 1) := by decide +kernel
theorem dX7_spill_47 : decode cX7_spill 47 = .ok (.invokevirtual 135, 3) := by decide +kernel
theorem dX7_spill_50 : decode cX7_spill 50 = .ok (.aload_n 0, 1) := by decide +kernel
theorem dX7_spill_51 : decode cX7_spill 51 = .ok (.getfield 10, 3) := by decide +kernel
theorem dX7_spill_54 : decode cX7_spill 54 = .ok (.getfield 63, 3) := by decide +kernel
theorem dX7_spill_57 : decode cX7_spill 57 = .ok (.dup, 1) := by decide +kernel
theorem dX7_spill_58 : decode cX7_spill 58 = .ok (.getfield 138, 3) := by decide +kernel
theorem dX7_spill_61 : decode cX7_spill 61 = .ok (.iload_n 2, 1) := by decide +kernel
theorem dX7_spill_62 : decode cX7_spill 62 = .ok (.iadd, 1) := by decide +kernel
theorem dX7_spill_63 : decode cX7_spill 63 = .ok (.putfield 138, 3) := by decide +kernel
theorem dX7_spill_66 : decode cX7_spill 66 = .ok (.aload_n 0, 1) := by decide +kernel
theorem dX7_spill_67 : decode cX7_spill 67 = .ok (.getfield 10, 3) := by decide +kernel
theorem dX7_spill_70 : decode cX7_spill 70 = .ok (.getfield 63, 3) := by decide +kernel
theorem dX7_spill_73 : decode cX7_spill 73 = .ok (.iload_n 1, 1) := by decide +kernel
theorem dX7_spill_74 : decode cX7_spill 74 = .ok (.invokevirtual 125, 3) := by decide +kernel
theorem dX7_spill_77 : decode cX7_spill 77 = .ok (.ireturn, 1) := by decide +kernel
theorem dX7_lot_0 : decode cX7_lot 0 = .ok (.aload_n 0, 1) := by decide +kernel
theorem dX7_lot_1 : decode cX7_lot 1 = .ok (.iload_n 1, 1) := by decide +kernel
theorem dX7_lot_2 : decode cX7_lot 2 = .ok (.invokevirtual 122, 3) := by decide +kernel
theorem dX7_lot_5 : decode cX7_lot 5 = .ok (.iload_n 2, 1) := by decide +kernel
theorem dX7_lot_6 : decode cX7_lot 6 = .ok (.iconst 0, 1) := by decide +kernel
theorem dX7_lot_7 : decode cX7_lot 7 = .ok (.bipush 6, 2) := by decide +kernel
theorem dX7_lot_9 : decode cX7_lot 9 = .ok (.invokestatic 59, 3) := by decide +kernel
theorem dX7_lot_12 : decode cX7_lot 12 = .ok (.iload_n 2, 1) := by decide +kernel
theorem dX7_lot_13 : decode cX7_lot 13 = .ok (.iconst 5, 1) := by decide +kernel
theorem dX7_lot_14 : decode cX7_lot 14 = .ok (.if_icmp .ne 15, 3) := by decide +kernel
theorem dX7_lot_17 : decode cX7_lot 17 = .ok (.aload_n 0, 1) := by decide +kernel
theorem dX7_lot_18 : decode cX7_lot 18 = .ok (.getfield 10, 3) := by decide +kernel
theorem dX7_lot_21 : decode cX7_lot 21 = .ok (.getfield 63, 3) := by decide +kernel
theorem dX7_lot_24 : decode cX7_lot 24 = .ok (.iload_n 1, 1) := by decide +kernel
theorem dX7_lot_25 : decode cX7_lot 25 = .ok (.invokevirtual 141, 3) := by decide +kernel
theorem dX7_lot_28 : decode cX7_lot 28 = .ok (.ireturn, 1) := by decide +kernel
theorem dX7_lot_29 : decode cX7_lot 29 = .ok (.iload_n 2, 1) := by decide +kernel
theorem dX7_lot_30 : decode cX7_lot 30 = .ok (.bipush 6, 2) := by decide +kernel
theorem dX7_lot_32 : decode cX7_lot 32 = .ok (.if_icmp .ne 18, 3) := by decide +kernel
theorem dX7_lot_35 : decode cX7_lot 35 = .ok (.aload_n 0, 1) := by decide +kernel
theorem dX7_lot_36 : decode cX7_lot 36 = .ok (.getfield 10, 3) := by decide +kernel
theorem dX7_lot_39 : decode cX7_lot 39 = .ok (.getfield 63, 3) := by decide +kernel
theorem dX7_lot_42 : decode cX7_lot 42 = .ok (.iload_n 1, 1) := by decide +kernel
theorem dX7_lot_43 : decode cX7_lot 43 = .ok (.invokevirtual 144, 3) := by decide +kernel
theorem dX7_lot_46 : decode cX7_lot 46 = .ok (.invokestatic 147, 3) := by decide +kernel
theorem dX7_lot_49 : decode cX7_lot 49 = .ok (.ireturn, 1) := by decide +kernel
theorem dX7_lot_50 : decode cX7_lot 50 = .ok (.aload_n 0, 1) := by decide +kernel
theorem dX7_lot_51 : decode cX7_lot 51 = .ok (.getfield 10, 3) := by decide +kernel
theorem dX7_lot_54 : decode cX7_lot 54 = .ok (.getfield 63, 3) := by decide +kernel
theorem dX7_lot_57 : decode cX7_lot 57 = .ok (.getfield 152, 3) := by decide +kernel
theorem dX7_lot_60 : decode cX7_lot 60 = .ok (.iload_n 1, 1) := by decide +kernel
theorem dX7_lot_61 : decode cX7_lot 61 = .ok (.iload_n 2, 1) := by decide +kernel
theorem dX7_lot_62 : decode cX7_lot 62 = .ok (.invokevirtual 155, 3) := by decide +kernel
theorem dX7_lot_65 : decode cX7_lot 65 = .ok (.ireturn, 1) := by decide +kernel
theorem dX7_part_0 : decode cX7_part 0 = .ok (.aload_n 0, 1) := by decide +kernel
theorem dX7_part_1 : decode cX7_part 1 = .ok (.iload_n 1, 1) := by decide +kernel
theorem dX7_part_2 : decode cX7_part 2 = .ok (.invokevirtual 122, 3) := by decide +kernel
theorem dX7_part_5 : decode cX7_part 5 = .ok (.iload_n 2, 1) := by decide +kernel
theorem dX7_part_6 : decode cX7_part 6 = .ok (.iconst 0, 1) := by decide +kernel
theorem dX7_part_7 : decode cX7_part 7 = .ok (.aload_n 0, 1) := by decide +kernel
theorem dX7_part_8 : decode cX7_part 8 = .ok (.getfield 10, 3) := by decide +kernel
theorem dX7_part_11 : decode cX7_part 11 = .ok (.getfield 63, 3) := by decide +kernel
theorem dX7_part_14 : decode cX7_part 14 = .ok (.iload_n 1, 1) := by decide +kernel
theorem dX7_part_15 : decode cX7_part 15 = .ok (.invokevirtual 158, 3) := by decide +kernel
theorem dX7_part_18 : decode cX7_part 18 = .ok (.iconst 1, 1) := by decide +kernel
theorem dX7_part_19 : decode cX7_part 19 = .ok (.isub, 1) := by decide +kernel
theorem dX7_part_20 : decode cX7_part 20 = .ok (.invokestatic 161, 3) := by decide +kernel
theorem dX7_part_23 : decode cX7_part 23 = .ok (.ifCond .ne 13, 3) := by decide +kernel
theorem dX7_part_26 : decode cX7_part 26 = .ok (.new 165, 3) := by decide +kernel
theorem dX7_part_29 : decode cX7_part 29 = .ok (.dup, 1) := by decide +kernel
theorem dX7_part_30 : decode cX7_part 30 = .ok (.ldc 167, 2) := by decide +kernel
theorem dX7_part_32 : decode cX7_part 32 = .ok (.invokespecial 169, 3) := by decide +kernel
theorem dX7_part_35 : decode cX7_part 35 = .ok (.athrow, 1) := by decide +kernel
theorem dX7_part_36 : decode cX7_part 36 = .ok (.iload_n 3, 1) := by decide +kernel
theorem dX7_part_37 : decode cX7_part 37 = .ok (.iconst 0, 1) := by decide +kernel
theorem dX7_part_38 : decode cX7_part 38 = .ok (.iconst 1, 1) := by decide +kernel
theorem dX7_part_39 : decode cX7_part 39 = .ok (.invokestatic 59, 3) := by decide +kernel
theorem dX7_part_42 : decode cX7_part 42 = .ok (.iload_n 3, 1) := by decide +kernel
theorem dX7_part_43 : decode cX7_part 43 = .ok (.ifCond .ne 21, 3) := by decide +kernel
theorem dX7_part_46 : decode cX7_part 46 = .ok (.aload_n 0, 1) := by decide +kernel
theorem dX7_part_47 : decode cX7_part 47 = .ok (.getfield 10, 3) := by decide +kernel
theorem dX7_part_50 : decode cX7_part 50 = .ok (.getfield 63, 3) := by decide +kernel
theorem dX7_part_53 : decode cX7_part 53 = .ok (.getfield 170, 3) := by decide +kernel
theorem dX7_part_56 : decode cX7_part 56 = .ok (.iload_n 1, 1) := by decide +kernel
theorem dX7_part_57 : decode cX7_part 57 = .ok (.iload_n 2, 1) := by decide +kernel
theorem dX7_part_58 : decode cX7_part 58 = .ok (.invokevirtual 155, 3) := by decide +kernel
theorem dX7_part_61 : decode cX7_part 61 = .ok (.goto 18, 3) := by decide +kernel
theorem dX7_part_64 : decode cX7_part 64 = .ok (.aload_n 0, 1) := by decide +kernel
theorem dX7_part_65 : decode cX7_part 65 = .ok (.getfield 10, 3) := by decide +kernel
theorem dX7_part_68 : decode cX7_part 68 = .ok (.getfield 63, 3) := by decide +kernel
theorem dX7_part_71 : decode cX7_part 71 = .ok (.getfield 173, 3) := by decide +kernel
theorem dX7_part_74 : decode cX7_part 74 = .ok (.iload_n 1, 1) := by decide +kernel
theorem dX7_part_75 : decode cX7_part 75 = .ok (.iload_n 2, 1) := by decide +kernel
theorem dX7_part_76 : decode cX7_part 76 = .ok (.invokevirtual 155, 3) := by decide +kernel
theorem dX7_part_79 : decode cX7_part 79 = .ok (.ireturn, 1) := by decide +kernel
theorem dX7_share_0 : decode cX7_share 0 = .ok (.aload_n 0, 1) := by decide +kernel
theorem dX7_share_1 : decode cX7_share 1 = .ok (.iload_n 1, 1) := by decide +kernel
theorem dX7_share_2 : decode cX7_share 2 = .ok (.invokevirtual 122, 3) := by decide +kernel
theorem dX7_share_5 : decode cX7_share 5 = .ok (.iload_n 2, 1) := by decide +kernel
theorem dX7_share_6 : decode cX7_share 6 = .ok (.iconst 0, 1) := by decide +kernel
theorem dX7_share_7 : decode cX7_share 7 = .ok (.iconst 3, 1) := by decide +kernel
theorem dX7_share_8 : decode cX7_share 8 = .ok (.invokestatic 59, 3) := by decide +kernel
theorem dX7_share_11 : decode cX7_share 11 = .ok (.iload_n 3, 1) := by decide +kernel
theorem dX7_share_12 : decode cX7_share 12 = .ok (.iconst 0, 1) := by decide +kernel
theorem dX7_share_13 : decode cX7_share 13 = .ok (.aload_n 0, 1) := by decide +kernel
theorem dX7_share_14 : decode cX7_share 14 = .ok (.getfield 10, 3) := by decide +kernel
theorem dX7_share_17 : decode cX7_share 17 = .ok (.getfield 63, 3) := by decide +kernel
theorem dX7_share_20 : decode cX7_share 20 = .ok (.iload_n 2, 1) := by decide +kernel
theorem dX7_share_21 : decode cX7_share 21 = .ok (.invokevirtual 176, 3) := by decide +kernel
theorem dX7_share_24 : decode cX7_share 24 = .ok (.iconst 1, 1) := by decide +kernel
theorem dX7_share_25 : decode cX7_share 25 = .ok (.isub, 1) := by decide +kernel
theorem dX7_share_26 : decode cX7_share 26 = .ok (.invokestatic 59, 3) := by decide +kernel
theorem dX7_share_29 : decode cX7_share 29 = .ok (.aload_n 0, 1) := by decide +kernel
theorem dX7_share_30 : decode cX7_share 30 = .ok (.getfield 10, 3) := by decide +kernel
theorem dX7_share_33 : decode cX7_share 33 = .ok (.getfield 63, 3) := by decide +kernel
theorem dX7_share_36 : decode cX7_share 36 = .ok (.iload_n 1, 1) := by decide +kernel
theorem dX7_share_37 : decode cX7_share 37 = .ok (.iload_n 2, 1) := by decide +kernel
theorem dX7_share_38 : decode cX7_share 38 = .ok (.iload_n 3, 1) := by decide +kernel
theorem dX7_share_39 : decode cX7_share 39 = .ok (.invokevirtual 179, 3) := by decide +kernel
theorem dX7_share_42 : decode cX7_share 42 = .ok (.ireturn, 1) := by decide +kernel
theorem dX7_greatest_0 : decode cX7_greatest 0 = .ok (.aload_n 0, 1) := by decide +kernel
theorem dX7_greatest_1 : decode cX7_greatest 1 = .ok (.iload_n 1, 1) := by decide +kernel
theorem dX7_greatest_2 : decode cX7_greatest 2 = .ok (.invokevirtual 122, 3) := by decide +kernel
theorem dX7_greatest_5 : decode cX7_greatest 5 = .ok (.iload_n 2, 1) := by decide +kernel
theorem dX7_greatest_6 : decode cX7_greatest 6 = .ok (.iconst 0, 1) := by decide +kernel
theorem dX7_greatest_7 : decode cX7_greatest 7 = .ok (.aload_n 0, 1) := by decide +kernel
theorem dX7_greatest_8 : decode cX7_greatest 8 = .ok (.getfield 10, 3) := by decide +kernel
theorem dX7_greatest_11 : decode cX7_greatest 11 = .ok (.getfield 63, 3) := by decide +kernel
theorem dX7_greatest_14 : decode cX7_greatest 14 = .ok (.iload_n 1, 1) := by decide +kernel
theorem dX7_greatest_15 : decode cX7_greatest 15 = .ok (.invokevirtual 141, 3) := by decide +kernel
theorem dX7_greatest_18 : decode cX7_greatest 18 = .ok (.iconst 1, 1) := by decide +kernel
theorem dX7_greatest_19 : decode cX7_greatest 19 = .ok (.isub, 1) := by decide +kernel
theorem dX7_greatest_20 : decode cX7_greatest 20 = .ok (.invokestatic 161, 3) := by decide +kernel
theorem dX7_greatest_23 : decode cX7_greatest 23 = .ok (.ifCond .ne 13, 3) := by decide +kernel
theorem dX7_greatest_26 : decode cX7_greatest 26 = .ok (.new 165, 3) := by decide +kernel
theorem dX7_greatest_29 : decode cX7_greatest 29 = .ok (.dup, 1) := by decide +kernel
theorem dX7_greatest_30 : decode cX7_greatest 30 = .ok (.ldc 183, 2) := by decide +kernel
theorem dX7_greatest_32 : decode cX7_greatest 32 = .ok (.invokespecial 169, 3) := by decide +kernel
theorem dX7_greatest_35 : decode cX7_greatest 35 = .ok (.athrow, 1) := by decide +kernel
theorem dX7_greatest_36 : decode cX7_greatest 36 = .ok (.aload_n 0, 1) := by decide +kernel
theorem dX7_greatest_37 : decode cX7_greatest 37 = .ok (.getfield 10, 3) := by decide +kernel
theorem dX7_greatest_40 : decode cX7_greatest 40 = .ok (.getfield 63, 3) := by decide +kernel
theorem dX7_greatest_43 : decode cX7_greatest 43 = .ok (.getfield 185, 3) := by decide +kernel
theorem dX7_greatest_46 : decode cX7_greatest 46 = .ok (.iload_n 1, 1) := by decide +kernel
theorem dX7_greatest_47 : decode cX7_greatest 47 = .ok (.iload_n 2, 1) := by decide +kernel
theorem dX7_greatest_48 : decode cX7_greatest 48 = .ok (.invokevirtual 188, 3) := by decide +kernel
theorem dX7_greatest_51 : decode cX7_greatest 51 = .ok (.ireturn, 1) := by decide +kernel
theorem dX7_meanVintage_0 : decode cX7_meanVintage 0 = .ok (.aload_n 0, 1) := by decide +kernel
theorem dX7_meanVintage_1 : decode cX7_meanVintage 1 = .ok (.iload_n 1, 1) := by decide +kernel
theorem dX7_meanVintage_2 : decode cX7_meanVintage 2 = .ok (.invokevirtual 122, 3) := by decide +kernel
theorem dX7_meanVintage_5 : decode cX7_meanVintage 5 = .ok (.aload_n 0, 1) := by decide +kernel
theorem dX7_meanVintage_6 : decode cX7_meanVintage 6 = .ok (.getfield 10, 3) := by decide +kernel
theorem dX7_meanVintage_9 : decode cX7_meanVintage 9 = .ok (.getfield 63, 3) := by decide +kernel
theorem dX7_meanVintage_12 : decode cX7_meanVintage 12 = .ok (.iload_n 1, 1) := by decide +kernel
theorem dX7_meanVintage_13 : decode cX7_meanVintage 13 = .ok (.invokevirtual 191, 3) := by decide +kernel
theorem dX7_meanVintage_16 : decode cX7_meanVintage 16 = .ok (.i2d, 1) := by decide +kernel
theorem dX7_meanVintage_17 : decode cX7_meanVintage 17 = .ok (.ldc2_w 194, 3) := by decide +kernel
theorem dX7_meanVintage_20 : decode cX7_meanVintage 20 = .ok (.ddiv, 1) := by decide +kernel
theorem dX7_meanVintage_21 : decode cX7_meanVintage 21 = .ok (.dreturn, 1) := by decide +kernel
theorem dX7_setLaw_0 : decode cX7_setLaw 0 = .ok (.iload_n 1, 1) := by decide +kernel
theorem dX7_setLaw_1 : decode cX7_setLaw 1 = .ok (.iconst 3, 1) := by decide +kernel
theorem dX7_setLaw_2 : decode cX7_setLaw 2 = .ok (.invokestatic 196, 3) := by decide +kernel
theorem dX7_setLaw_5 : decode cX7_setLaw 5 = .ok (.iload_n 2, 1) := by decide +kernel
theorem dX7_setLaw_6 : decode cX7_setLaw 6 = .ok (.sipush 500, 3) := by decide +kernel
theorem dX7_setLaw_9 : decode cX7_setLaw 9 = .ok (.sipush 1000, 3) := by decide +kernel
theorem dX7_setLaw_12 : decode cX7_setLaw 12 = .ok (.invokestatic 59, 3) := by decide +kernel
theorem dX7_setLaw_15 : decode cX7_setLaw 15 = .ok (.aload_n 0, 1) := by decide +kernel
theorem dX7_setLaw_16 : decode cX7_setLaw 16 = .ok (.getfield 22, 3) := by decide +kernel
theorem dX7_setLaw_19 : decode cX7_setLaw 19 = .ok (.aload_n 0, 1) := by decide +kernel
theorem dX7_setLaw_20 : decode cX7_setLaw 20 = .ok (.getfield 10, 3) := by decide +kernel
theorem dX7_setLaw_23 : decode cX7_setLaw 23 = .ok (.invokevirtual 82, 3) := by decide +kernel
theorem dX7_setLaw_26 : decode cX7_setLaw 26 = .ok (.aload_n 0, 1) := by decide +kernel
theorem dX7_setLaw_27 : decode cX7_setLaw 27 = .ok (.getfield 10, 3) := by decide +kernel
theorem dX7_setLaw_30 : decode cX7_setLaw 30 = .ok (.getfield 199, 3) := by decide +kernel
theorem dX7_setLaw_33 : decode cX7_setLaw 33 = .ok (.iconst 0, 1) := by decide +kernel
theorem dX7_setLaw_34 : decode cX7_setLaw 34 = .ok (.iload_n 1, 1) := by decide +kernel
theorem dX7_setLaw_35 : decode cX7_setLaw 35 = .ok (.invokevirtual 155, 3) := by decide +kernel
theorem dX7_setLaw_38 : decode cX7_setLaw 38 = .ok (.istore_n 3, 1) := by decide +kernel
theorem dX7_setLaw_39 : decode cX7_setLaw 39 = .ok (.aload_n 0, 1) := by decide +kernel
theorem dX7_setLaw_40 : decode cX7_setLaw 40 = .ok (.getfield 10, 3) := by decide +kernel
theorem dX7_setLaw_43 : decode cX7_setLaw 43 = .ok (.getfield 199, 3) := by decide +kernel
theorem dX7_setLaw_46 : decode cX7_setLaw 46 = .ok (.iconst 0, 1) := by decide +kernel
theorem dX7_setLaw_47 : decode cX7_setLaw 47 = .ok (.iload_n 1, 1) := by decide +kernel
theorem dX7_setLaw_48 : decode cX7_setLaw 48 = .ok (.iload_n 2, 1) := by decide +kernel
theorem dX7_setLaw_49 : decode cX7_setLaw 49 = .ok (.invokevirtual 202, 3) := by decide +kernel
theorem dX7_setLaw_52 : decode cX7_setLaw 52 = .ok (.iload_n 3, 1) := by decide +kernel
theorem dX7_setLaw_53 : decode cX7_setLaw 53 = .ok (.ireturn, 1) := by decide +kernel
theorem dX7_bottle_0 : decode cX7_bottle 0 = .ok (.aload_n 0, 1) := by decide +kernel
theorem dX7_bottle_1 : decode cX7_bottle 1 = .ok (.iload_n 1, 1) := by decide +kernel
theorem dX7_bottle_2 : decode cX7_bottle 2 = .ok (.invokevirtual 122, 3) := by decide +kernel
theorem dX7_bottle_5 : decode cX7_bottle 5 = .ok (.iload_n 2, 1) := by decide +kernel
theorem dX7_bottle_6 : decode cX7_bottle 6 = .ok (.iconst 1, 1) := by decide +kernel
theorem dX7_bottle_7 : decode cX7_bottle 7 = .ok (.sipush 3333, 3) := by decide +kernel
theorem dX7_bottle_10 : decode cX7_bottle 10 = .ok (.invokestatic 59, 3) := by decide +kernel
theorem dX7_bottle_13 : decode cX7_bottle 13 = .ok (.iload_n 3, 1) := by decide +kernel
theorem dX7_bottle_14 : decode cX7_bottle 14 = .ok (.iload 4, 2) := by decide +kernel
theorem dX7_bottle_16 : decode cX7_bottle 16 = .ok (.iload 5, 2) := by decide +kernel
theorem dX7_bottle_18 : decode cX7_bottle 18 = .ok (.iload 6, 2) := by decide +kernel
theorem dX7_bottle_20 : decode cX7_bottle 20 = .ok (.invokestatic 205, 3) := by decide +kernel
theorem dX7_bottle_23 : decode cX7_bottle 23 = .ok (.aload_n 0, 1) := by decide +kernel
theorem dX7_bottle_24 : decode cX7_bottle 24 = .ok (.aload_n 0, 1) := by decide +kernel
theorem dX7_bottle_25 : decode cX7_bottle 25 = .ok (.getfield 10, 3) := by decide +kernel
theorem dX7_bottle_28 : decode cX7_bottle 28 = .ok (.iload_n 1, 1) := by decide +kernel
theorem dX7_bottle_29 : decode cX7_bottle 29 = .ok (.iload_n 2, 1) := by decide +kernel
theorem dX7_bottle_30 : decode cX7_bottle 30 = .ok (.iload_n 3, 1) := by decide +kernel
theorem dX7_bottle_31 : decode cX7_bottle 31 = .ok (.iload 4, 2) := by decide +kernel
theorem dX7_bottle_33 : decode cX7_bottle 33 = .ok (.iload 5, 2) := by decide +kernel
theorem dX7_bottle_35 : decode cX7_bottle 35 = .ok (.iload 6, 2) := by decide +kernel
theorem dX7_bottle_37 : decode cX7_bottle 37 = .ok (.invokevirtual 209, 3) := by decide +kernel
theorem dX7_bottle_40 : decode cX7_bottle 40 = .ok (.invokevirtual 114, 3) := by decide +kernel
theorem dX7_bottle_43 : decode cX7_bottle 43 = .ok (.aload_n 0, 1) := by decide +kernel
theorem dX7_bottle_44 : decode cX7_bottle 44 = .ok (.getfield 22, 3) := by decide +kernel
theorem dX7_bottle_47 : decode cX7_bottle 47 = .ok (.aload_n 0, 1) := by decide +kernel
theorem dX7_bottle_48 : decode cX7_bottle 48 = .ok (.getfield 10, 3) := by decide +kernel
theorem dX7_bottle_51 : decode cX7_bottle 51 = .ok (.invokevirtual 82, 3) := by decide +kernel
theorem dX7_bottle_54 : decode cX7_bottle 54 = .ok (.aload_n 0, 1) := by decide +kernel
theorem dX7_bottle_55 : decode cX7_bottle 55 = .ok (.getfield 10, 3) := by decide +kernel
theorem dX7_bottle_58 : decode cX7_bottle 58 = .ok (.getfield 63, 3) := by decide +kernel
theorem dX7_bottle_61 : decode cX7_bottle 61 = .ok (.iload_n 1, 1) := by decide +kernel
theorem dX7_bottle_62 : decode cX7_bottle 62 = .ok (.iload_n 2, 1) := by decide +kernel
theorem dX7_bottle_63 : decode cX7_bottle 63 = .ok (.iconst 3, 1) := by decide +kernel
theorem dX7_bottle_64 : decode cX7_bottle 64 = .ok (.imul, 1) := by decide +kernel
theorem dX7_bottle_65 : decode cX7_bottle 65 = .ok (.invokevirtual 135, 3) := by decide +kernel
theorem dX7_bottle_68 : decode cX7_bottle 68 = .ok (.aload_n 0, 1) := by decide +kernel
theorem dX7_bottle_69 : decode cX7_bottle 69 = .ok (.getfield 10, 3) := by decide +kernel
theorem dX7_bottle_72 : decode cX7_bottle 72 = .ok (.getfield 213, 3) := by decide +kernel
theorem dX7_bottle_75 : decode cX7_bottle 75 = .ok (.iload_n 1, 1) := by decide +kernel
theorem dX7_bottle_76 : decode cX7_bottle 76 = .ok (.iload_n 2, 1) := by decide +kernel
theorem dX7_bottle_77 : decode cX7_bottle 77 = .ok (.invokevirtual 217, 3) := by decide +kernel
theorem dX7_bottle_80 : decode cX7_bottle 80 = .ok (.istore 7, 2) := by decide +kernel
theorem dX7_bottle_82 : decode cX7_bottle 82 = .ok (.aload_n 0, 1) := by decide +kernel
theorem dX7_bottle_83 : decode cX7_bottle 83 = .ok (.getfield 10, 3) := by decide +kernel
theorem dX7_bottle_86 : decode cX7_bottle 86 = .ok (.getfield 213, 3) := by decide +kernel
theorem dX7_bottle_89 : decode cX7_bottle 89 = .ok (.iload 7, 2) := by decide +kernel
theorem dX7_bottle_91 : decode cX7_bottle 91 = .ok (.iload_n 3, 1) := by decide +kernel
theorem dX7_bottle_92 : decode cX7_bottle 92 = .ok (.iload 4, 2) := by decide +kernel
theorem dX7_bottle_94 : decode cX7_bottle 94 = .ok (.iload 5, 2) := by decide +kernel
theorem dX7_bottle_96 : decode cX7_bottle 96 = .ok (.iload 6, 2) := by decide +kernel
theorem dX7_bottle_98 : decode cX7_bottle 98 = .ok (.invokevirtual 222, 3) := by decide +kernel
theorem dX7_bottle_101 : decode cX7_bottle 101 = .ok (.iload 7, 2) := by decide +kernel
theorem dX7_bottle_103 : decode cX7_bottle 103 = .ok (.ireturn, 1) := by decide +kernel
theorem dX7_forbids_0 : decode cX7_forbids 0 = .ok (.aload_n 0, 1) := by decide +kernel
theorem dX7_forbids_1 : decode cX7_forbids 1 = .ok (.iload_n 1, 1) := by decide +kernel
theorem dX7_forbids_2 : decode cX7_forbids 2 = .ok (.invokevirtual 122, 3) := by decide +kernel
theorem dX7_forbids_5 : decode cX7_forbids 5 = .ok (.iload_n 2, 1) := by decide +kernel
theorem dX7_forbids_6 : decode cX7_forbids 6 = .ok (.iload_n 3, 1) := by decide +kernel
theorem dX7_forbids_7 : decode cX7_forbids 7 = .ok (.iload 4, 2) := by decide +kernel
theorem dX7_forbids_9 : decode cX7_forbids 9 = .ok (.iload 5, 2) := by decide +kernel
theorem dX7_forbids_11 : decode cX7_forbids 11 = .ok (.invokestatic 205, 3) := by decide +kernel
theorem dX7_forbids_14 : decode cX7_forbids 14 = .ok (.aload_n 0, 1) := by decide +kernel
theorem dX7_forbids_15 : decode cX7_forbids 15 = .ok (.getfield 10, 3) := by decide +kernel
theorem dX7_forbids_18 : decode cX7_forbids 18 = .ok (.iload_n 1, 1) := by decide +kernel
theorem dX7_forbids_19 : decode cX7_forbids 19 = .ok (.iload_n 2, 1) := by decide +kernel
theorem dX7_forbids_20 : decode cX7_forbids 20 = .ok (.iload_n 3, 1) := by decide +kernel
theorem dX7_forbids_21 : decode cX7_forbids 21 = .ok (.iload 4, 2) := by decide +kernel
theorem dX7_forbids_23 : decode cX7_forbids 23 = .ok (.iload 5, 2) := by decide +kernel
theorem dX7_forbids_25 : decode cX7_forbids 25 = .ok (.invokevirtual 226, 3) := by decide +kernel
theorem dX7_forbids_28 : decode cX7_forbids 28 = .ok (.ireturn, 1) := by decide +kernel
theorem dX7_bottling_0 : decode cX7_bottling 0 = .ok (.iload_n 1, 1) := by decide +kernel
theorem dX7_bottling_1 : decode cX7_bottling 1 = .ok (.aload_n 0, 1) := by decide +kernel
theorem dX7_bottling_2 : decode cX7_bottling 2 = .ok (.getfield 10, 3) := by decide +kernel
theorem dX7_bottling_5 : decode cX7_bottling 5 = .ok (.getfield 213, 3) := by decide +kernel
theorem dX7_bottling_8 : decode cX7_bottling 8 = .ok (.getfield 230, 3) := by decide +kernel
theorem dX7_bottling_11 : decode cX7_bottling 11 = .ok (.invokestatic 196, 3) := by decide +kernel
theorem dX7_bottling_14 : decode cX7_bottling 14 = .ok (.iload_n 2, 1) := by decide +kernel
theorem dX7_bottling_15 : decode cX7_bottling 15 = .ok (.iconst 0, 1) := by decide +kernel
theorem dX7_bottling_16 : decode cX7_bottling 16 = .ok (.bipush 8, 2) := by decide +kernel
theorem dX7_bottling_18 : decode cX7_bottling 18 = .ok (.invokestatic 59, 3) := by decide +kernel
theorem dX7_bottling_21 : decode cX7_bottling 21 = .ok (.iload_n 2, 1) := by decide +kernel
theorem dX7_bottling_22 : decode cX7_bottling 22 = .ok (.bipush 7, 2) := by decide +kernel
theorem dX7_bottling_24 : decode cX7_bottling 24 = .ok (.if_icmp .ne 19, 3) := by decide +kernel
theorem dX7_bottling_27 : decode cX7_bottling 27 = .ok (.aload_n 0, 1) := by decide +kernel
theorem dX7_bottling_28 : decode cX7_bottling 28 = .ok (.getfield 10, 3) := by decide +kernel
theorem dX7_bottling_31 : decode cX7_bottling 31 = .ok (.getfield 231, 3) := by decide +kernel
theorem dX7_bottling_34 : decode cX7_bottling 34 = .ok (.iload_n 1, 1) := by decide +kernel
theorem dX7_bottling_35 : decode cX7_bottling 35 = .ok (.aload_n 0, 1) := by decide +kernel
theorem dX7_bottling_36 : decode cX7_bottling 36 = .ok (.getfield 38, 3) := by decide +kernel
theorem dX7_bottling_39 : decode cX7_bottling 39 = .ok (.invokevirtual 235, 3) := by decide +kernel
theorem dX7_bottling_42 : decode cX7_bottling 42 = .ok (.ireturn, 1) := by decide +kernel
theorem dX7_bottling_43 : decode cX7_bottling 43 = .ok (.iload_n 2, 1) := by decide +kernel
theorem dX7_bottling_44 : decode cX7_bottling 44 = .ok (.bipush 8, 2) := by decide +kernel
theorem dX7_bottling_46 : decode cX7_bottling 46 = .ok (.if_icmp .ne 20, 3) := by decide +kernel
theorem dX7_bottling_49 : decode cX7_bottling 49 = .ok (.aload_n 0, 1) := by decide +kernel
theorem dX7_bottling_50 : decode cX7_bottling 50 = .ok (.getfield 10, 3) := by decide +kernel
theorem dX7_bottling_53 : decode cX7_bottling 53 = .ok (.iload_n 1, 1) := by decide +kernel
theorem dX7_bottling_54 : decode cX7_bottling 54 = .ok (.invokevirtual 241, 3) := by decide +kernel
theorem dX7_bottling_57 : decode cX7_bottling 57 = .ok (.ifCond .eq 7, 3) := by decide +kernel
theorem dX7_bottling_60 : decode cX7_bottling 60 = .ok (.iconst 1, 1) := by decide +kernel
theorem dX7_bottling_61 : decode cX7_bottling 61 = .ok (.goto 4, 3) := by decide +kernel
theorem dX7_bottling_64 : decode cX7_bottling 64 = .ok (.iconst 0, 1) := by decide +kernel
theorem dX7_bottling_65 : decode cX7_bottling 65 = .ok (.ireturn, 1) := by decide +kernel
theorem dX7_bottling_66 : decode cX7_bottling 66 = .ok (.aload_n 0, 1) := by decide +kernel
theorem dX7_bottling_67 : decode cX7_bottling 67 = .ok (.getfield 10, 3) := by decide +kernel
theorem dX7_bottling_70 : decode cX7_bottling 70 = .ok (.getfield 213, 3) := by decide +kernel
theorem dX7_bottling_73 : decode cX7_bottling 73 = .ok (.getfield 245, 3) := by decide +kernel
theorem dX7_bottling_76 : decode cX7_bottling 76 = .ok (.iload_n 1, 1) := by decide +kernel
theorem dX7_bottling_77 : decode cX7_bottling 77 = .ok (.iload_n 2, 1) := by decide +kernel
theorem dX7_bottling_78 : decode cX7_bottling 78 = .ok (.invokevirtual 155, 3) := by decide +kernel
theorem dX7_bottling_81 : decode cX7_bottling 81 = .ok (.ireturn, 1) := by decide +kernel
theorem dX7_reason_0 : decode cX7_reason 0 = .ok (.aload_n 0, 1) := by decide +kernel
theorem dX7_reason_1 : decode cX7_reason 1 = .ok (.getfield 52, 3) := by decide +kernel
theorem dX7_reason_4 : decode cX7_reason 4 = .ok (.iconst (-1), 1) := by decide +kernel
theorem dX7_reason_5 : decode cX7_reason 5 = .ok (.if_icmp .ne 13, 3) := by decide +kernel
theorem dX7_reason_8 : decode cX7_reason 8 = .ok (.new 165, 3) := by decide +kernel
theorem dX7_reason_11 : decode cX7_reason 11 = .ok (.dup, 1) := by decide +kernel
theorem dX7_reason_12 : decode cX7_reason 12 = .ok (.ldc 246, 2) := by decide +kernel
theorem dX7_reason_14 : decode cX7_reason 14 = .ok (.invokespecial 169, 3) := by decide +kernel
theorem dX7_reason_17 : decode cX7_reason 17 = .ok (.athrow, 1) := by decide +kernel
theorem dX7_reason_18 : decode cX7_reason 18 = .ok (.aload_n 0, 1) := by decide +kernel
theorem dX7_reason_19 : decode cX7_reason 19 = .ok (.getfield 52, 3) := by decide +kernel
theorem dX7_reason_22 : decode cX7_reason 22 = .ok (.ireturn, 1) := by decide +kernel
theorem dX7_addCustomer_0 : decode cX7_addCustomer 0 = .ok (.iload_n 1, 1) := by decide +kernel
theorem dX7_addCustomer_1 : decode cX7_addCustomer 1 = .ok (.iconst 0, 1) := by decide +kernel
theorem dX7_addCustomer_2 : decode cX7_addCustomer 2 = .ok (.iconst 2, 1) := by decide +kernel
theorem dX7_addCustomer_3 : decode cX7_addCustomer 3 = .ok (.invokestatic 59, 3) := by decide +kernel
theorem dX7_addCustomer_6 : decode cX7_addCustomer 6 = .ok (.aload_n 0, 1) := by decide +kernel
theorem dX7_addCustomer_7 : decode cX7_addCustomer 7 = .ok (.getfield 10, 3) := by decide +kernel
theorem dX7_addCustomer_10 : decode cX7_addCustomer 10 = .ok (.getfield 231, 3) := by decide +kernel
theorem dX7_addCustomer_13 : decode cX7_addCustomer 13 = .ok (.getfield 248, 3) := by decide +kernel
theorem dX7_addCustomer_16 : decode cX7_addCustomer 16 = .ok (.bipush 8, 2) := by decide +kernel
theorem dX7_addCustomer_18 : decode cX7_addCustomer 18 = .ok (.if_icmp .lt 13, 3) := by decide +kernel
theorem dX7_addCustomer_21 : decode cX7_addCustomer 21 = .ok (.new 75, 3) := by decide +kernel
theorem dX7_addCustomer_24 : decode cX7_addCustomer 24 = .ok (.dup, 1) := by decide +kernel
theorem dX7_addCustomer_25 : decode cX7_addCustomer 25 = .ok (.ldc 249, 2) := by decide +kernel
theorem dX7_addCustomer_27 : decode cX7_addCustomer 27 = .ok (.invokespecial 79, 3) := by decide +kernel
theorem dX7_addCustomer_30 : decode cX7_addCustomer 30 = .ok (.athrow, 1) := by decide +kernel
theorem dX7_addCustomer_31 : decode cX7_addCustomer 31 = .ok (.aload_n 0, 1) := by decide +kernel
theorem dX7_addCustomer_32 : decode cX7_addCustomer 32 = .ok (.getfield 22, 3) := by decide +kernel
theorem dX7_addCustomer_35 : decode cX7_addCustomer 35 = .ok (.aload_n 0, 1) := by decide +kernel
theorem dX7_addCustomer_36 : decode cX7_addCustomer 36 = .ok (.getfield 10, 3) := by decide +kernel
theorem dX7_addCustomer_39 : decode cX7_addCustomer 39 = .ok (.invokevirtual 82, 3) := by decide +kernel
theorem dX7_addCustomer_42 : decode cX7_addCustomer 42 = .ok (.aload_n 0, 1) := by decide +kernel
theorem dX7_addCustomer_43 : decode cX7_addCustomer 43 = .ok (.getfield 10, 3) := by decide +kernel
theorem dX7_addCustomer_46 : decode cX7_addCustomer 46 = .ok (.getfield 231, 3) := by decide +kernel
theorem dX7_addCustomer_49 : decode cX7_addCustomer 49 = .ok (.iload_n 1, 1) := by decide +kernel
theorem dX7_addCustomer_50 : decode cX7_addCustomer 50 = .ok (.invokevirtual 251, 3) := by decide +kernel
theorem dX7_addCustomer_53 : decode cX7_addCustomer 53 = .ok (.ireturn, 1) := by decide +kernel
theorem dX7_wish_0 : decode cX7_wish 0 = .ok (.aload_n 0, 1) := by decide +kernel
theorem dX7_wish_1 : decode cX7_wish 1 = .ok (.iload_n 1, 1) := by decide +kernel
theorem dX7_wish_2 : decode cX7_wish 2 = .ok (.iload_n 2, 1) := by decide +kernel
theorem dX7_wish_3 : decode cX7_wish 3 = .ok (.invokevirtual 254, 3) := by decide +kernel
theorem dX7_wish_6 : decode cX7_wish 6 = .ok (.iload_n 3, 1) := by decide +kernel
theorem dX7_wish_7 : decode cX7_wish 7 = .ok (.iconst 0, 1) := by decide +kernel
theorem dX7_wish_8 : decode cX7_wish 8 = .ok (.sipush 3333, 3) := by decide +kernel
theorem dX7_wish_11 : decode cX7_wish 11 = .ok (.invokestatic 59, 3) := by decide +kernel
theorem dX7_wish_14 : decode cX7_wish 14 = .ok (.aload_n 0, 1) := by decide +kernel
theorem dX7_wish_15 : decode cX7_wish 15 = .ok (.getfield 22, 3) := by decide +kernel
theorem dX7_wish_18 : decode cX7_wish 18 = .ok (.aload_n 0, 1) := by decide +kernel
theorem dX7_wish_19 : decode cX7_wish 19 = .ok (.getfield 10, 3) := by decide +kernel
theorem dX7_wish_22 : decode cX7_wish 22 = .ok (.invokevirtual 82, 3) := by decide +kernel
theorem dX7_wish_25 : decode cX7_wish 25 = .ok (.aload_n 0, 1) := by decide +kernel
theorem dX7_wish_26 : decode cX7_wish 26 = .ok (.getfield 10, 3) := by decide +kernel
theorem dX7_wish_29 : decode cX7_wish 29 = .ok (.getfield 231, 3) := by decide +kernel
theorem dX7_wish_32 : decode cX7_wish 32 = .ok (.getfield 257, 3) := by decide +kernel
theorem dX7_wish_35 : decode cX7_wish 35 = .ok (.iload_n 1, 1) := by decide +kernel
theorem dX7_wish_36 : decode cX7_wish 36 = .ok (.iload_n 2, 1) := by decide +kernel
theorem dX7_wish_37 : decode cX7_wish 37 = .ok (.invokevirtual 155, 3) := by decide +kernel
theorem dX7_wish_40 : decode cX7_wish 40 = .ok (.istore 4, 2) := by decide +kernel
theorem dX7_wish_42 : decode cX7_wish 42 = .ok (.aload_n 0, 1) := by decide +kernel
theorem dX7_wish_43 : decode cX7_wish 43 = .ok (.getfield 10, 3) := by decide +kernel
theorem dX7_wish_46 : decode cX7_wish 46 = .ok (.getfield 231, 3) := by decide +kernel
theorem dX7_wish_49 : decode cX7_wish 49 = .ok (.getfield 257, 3) := by decide +kernel
theorem dX7_wish_52 : decode cX7_wish 52 = .ok (.iload_n 1, 1) := by decide +kernel
theorem dX7_wish_53 : decode cX7_wish 53 = .ok (.iload_n 2, 1) := by decide +kernel
theorem dX7_wish_54 : decode cX7_wish 54 = .ok (.iload_n 3, 1) := by decide +kernel
theorem dX7_wish_55 : decode cX7_wish 55 = .ok (.invokevirtual 202, 3) := by decide +kernel
theorem dX7_wish_58 : decode cX7_wish 58 = .ok (.iload 4, 2) := by decide +kernel
theorem dX7_wish_60 : decode cX7_wish 60 = .ok (.ireturn, 1) := by decide +kernel
theorem dX7_serve_0 : decode cX7_serve 0 = .ok (.iload_n 1, 1) := by decide +kernel
theorem dX7_serve_1 : decode cX7_serve 1 = .ok (.aload_n 0, 1) := by decide +kernel
theorem dX7_serve_2 : decode cX7_serve 2 = .ok (.getfield 10, 3) := by decide +kernel
theorem dX7_serve_5 : decode cX7_serve 5 = .ok (.getfield 213, 3) := by decide +kernel
theorem dX7_serve_8 : decode cX7_serve 8 = .ok (.getfield 230, 3) := by decide +kernel
theorem dX7_serve_11 : decode cX7_serve 11 = .ok (.invokestatic 196, 3) := by decide +kernel
theorem dX7_serve_14 : decode cX7_serve 14 = .ok (.aload_n 0, 1) := by decide +kernel
theorem dX7_serve_15 : decode cX7_serve 15 = .ok (.getfield 22, 3) := by decide +kernel
theorem dX7_serve_18 : decode cX7_serve 18 = .ok (.aload_n 0, 1) := by decide +kernel
theorem dX7_serve_19 : decode cX7_serve 19 = .ok (.getfield 10, 3) := by decide +kernel
theorem dX7_serve_22 : decode cX7_serve 22 = .ok (.invokevirtual 82, 3) := by decide +kernel
theorem dX7_serve_25 : decode cX7_serve 25 = .ok (.aload_n 0, 1) := by decide +kernel
theorem dX7_serve_26 : decode cX7_serve 26 = .ok (.getfield 10, 3) := by decide +kernel
theorem dX7_serve_29 : decode cX7_serve 29 = .ok (.getfield 213, 3) := by decide +kernel
theorem dX7_serve_32 : decode cX7_serve 32 = .ok (.iload_n 1, 1) := by decide +kernel
theorem dX7_serve_33 : decode cX7_serve 33 = .ok (.invokevirtual 260, 3) := by decide +kernel
theorem dX7_serve_36 : decode cX7_serve 36 = .ok (.istore_n 2, 1) := by decide +kernel
theorem dX7_serve_37 : decode cX7_serve 37 = .ok (.aload_n 0, 1) := by decide +kernel
theorem dX7_serve_38 : decode cX7_serve 38 = .ok (.getfield 10, 3) := by decide +kernel
theorem dX7_serve_41 : decode cX7_serve 41 = .ok (.getfield 231, 3) := by decide +kernel
theorem dX7_serve_44 : decode cX7_serve 44 = .ok (.iload_n 1, 1) := by decide +kernel
theorem dX7_serve_45 : decode cX7_serve 45 = .ok (.iload_n 2, 1) := by decide +kernel
theorem dX7_serve_46 : decode cX7_serve 46 = .ok (.aload_n 0, 1) := by decide +kernel
theorem dX7_serve_47 : decode cX7_serve 47 = .ok (.getfield 38, 3) := by decide +kernel
theorem dX7_serve_50 : decode cX7_serve 50 = .ok (.invokevirtual 263, 3) := by decide +kernel
theorem dX7_serve_53 : decode cX7_serve 53 = .ok (.istore_n 3, 1) := by decide +kernel
theorem dX7_serve_54 : decode cX7_serve 54 = .ok (.aload_n 0, 1) := by decide +kernel
theorem dX7_serve_55 : decode cX7_serve 55 = .ok (.getfield 10, 3) := by decide +kernel
theorem dX7_serve_58 : decode cX7_serve 58 = .ok (.getfield 213, 3) := by decide +kernel
theorem dX7_serve_61 : decode cX7_serve 61 = .ok (.iload_n 1, 1) := by decide +kernel
theorem dX7_serve_62 : decode cX7_serve 62 = .ok (.iload_n 3, 1) := by decide +kernel
theorem dX7_serve_63 : decode cX7_serve 63 = .ok (.ineg, 1) := by decide +kernel
theorem dX7_serve_64 : decode cX7_serve 64 = .ok (.invokevirtual 267, 3) := by decide +kernel
theorem dX7_serve_67 : decode cX7_serve 67 = .ok (.iload_n 3, 1) := by decide +kernel
theorem dX7_serve_68 : decode cX7_serve 68 = .ok (.ireturn, 1) := by decide +kernel
theorem dX7_giveBack_0 : decode cX7_giveBack 0 = .ok (.aload_n 0, 1) := by decide +kernel
theorem dX7_giveBack_1 : decode cX7_giveBack 1 = .ok (.iload_n 1, 1) := by decide +kernel
theorem dX7_giveBack_2 : decode cX7_giveBack 2 = .ok (.iload_n 2, 1) := by decide +kernel
theorem dX7_giveBack_3 : decode cX7_giveBack 3 = .ok (.invokevirtual 254, 3) := by decide +kernel
theorem dX7_giveBack_6 : decode cX7_giveBack 6 = .ok (.iload_n 3, 1) := by decide +kernel
theorem dX7_giveBack_7 : decode cX7_giveBack 7 = .ok (.iconst 1, 1) := by decide +kernel
theorem dX7_giveBack_8 : decode cX7_giveBack 8 = .ok (.sipush 3333, 3) := by decide +kernel
theorem dX7_giveBack_11 : decode cX7_giveBack 11 = .ok (.aload_n 0, 1) := by decide +kernel
theorem dX7_giveBack_12 : decode cX7_giveBack 12 = .ok (.getfield 10, 3) := by decide +kernel
theorem dX7_giveBack_15 : decode cX7_giveBack 15 = .ok (.getfield 231, 3) := by decide +kernel
theorem dX7_giveBack_18 : decode cX7_giveBack 18 = .ok (.getfield 270, 3) := by decide +kernel
theorem dX7_giveBack_21 : decode cX7_giveBack 21 = .ok (.iload_n 1, 1) := by decide +kernel
theorem dX7_giveBack_22 : decode cX7_giveBack 22 = .ok (.iload_n 2, 1) := by decide +kernel
theorem dX7_giveBack_23 : decode cX7_giveBack 23 = .ok (.invokevirtual 155, 3) := by decide +kernel
theorem dX7_giveBack_26 : decode cX7_giveBack 26 = .ok (.invokestatic 129, 3) := by decide +kernel
theorem dX7_giveBack_29 : decode cX7_giveBack 29 = .ok (.invokestatic 59, 3) := by decide +kernel
theorem dX7_giveBack_32 : decode cX7_giveBack 32 = .ok (.aload_n 0, 1) := by decide +kernel
theorem dX7_giveBack_33 : decode cX7_giveBack 33 = .ok (.getfield 22, 3) := by decide +kernel
theorem dX7_giveBack_36 : decode cX7_giveBack 36 = .ok (.aload_n 0, 1) := by decide +kernel
theorem dX7_giveBack_37 : decode cX7_giveBack 37 = .ok (.getfield 10, 3) := by decide +kernel
theorem dX7_giveBack_40 : decode cX7_giveBack 40 = .ok (.invokevirtual 82, 3) := by decide +kernel
theorem dX7_giveBack_43 : decode cX7_giveBack 43 = .ok (.aload_n 0, 1) := by decide +kernel
theorem dX7_giveBack_44 : decode cX7_giveBack 44 = .ok (.getfield 10, 3) := by decide +kernel
theorem dX7_giveBack_47 : decode cX7_giveBack 47 = .ok (.getfield 213, 3) := by decide +kernel
theorem dX7_giveBack_50 : decode cX7_giveBack 50 = .ok (.iload_n 2, 1) := by decide +kernel
theorem dX7_giveBack_51 : decode cX7_giveBack 51 = .ok (.iload_n 3, 1) := by decide +kernel
theorem dX7_giveBack_52 : decode cX7_giveBack 52 = .ok (.invokevirtual 267, 3) := by decide +kernel
theorem dX7_giveBack_55 : decode cX7_giveBack 55 = .ok (.aload_n 0, 1) := by decide +kernel
theorem dX7_giveBack_56 : decode cX7_giveBack 56 = .ok (.getfield 10, 3) := by decide +kernel
theorem dX7_giveBack_59 : decode cX7_giveBack 59 = .ok (.getfield 231, 3) := by decide +kernel
theorem dX7_giveBack_62 : decode cX7_giveBack 62 = .ok (.iload_n 1, 1) := by decide +kernel
theorem dX7_giveBack_63 : decode cX7_giveBack 63 = .ok (.iload_n 2, 1) := by decide +kernel
theorem dX7_giveBack_64 : decode cX7_giveBack 64 = .ok (.iload_n 3, 1) := by decide +kernel
theorem dX7_giveBack_65 : decode cX7_giveBack 65 = .ok (.invokevirtual 273, 3) := by decide +kernel
theorem dX7_giveBack_68 : decode cX7_giveBack 68 = .ok (.ireturn, 1) := by decide +kernel
theorem dX7_holds_0 : decode cX7_holds 0 = .ok (.aload_n 0, 1) := by decide +kernel
theorem dX7_holds_1 : decode cX7_holds 1 = .ok (.iload_n 1, 1) := by decide +kernel
theorem dX7_holds_2 : decode cX7_holds 2 = .ok (.iload_n 2, 1) := by decide +kernel
theorem dX7_holds_3 : decode cX7_holds 3 = .ok (.invokevirtual 254, 3) := by decide +kernel
theorem dX7_holds_6 : decode cX7_holds 6 = .ok (.iload_n 3, 1) := by decide +kernel
theorem dX7_holds_7 : decode cX7_holds 7 = .ok (.iconst 0, 1) := by decide +kernel
theorem dX7_holds_8 : decode cX7_holds 8 = .ok (.iconst 2, 1) := by decide +kernel
theorem dX7_holds_9 : decode cX7_holds 9 = .ok (.invokestatic 59, 3) := by decide +kernel
theorem dX7_holds_12 : decode cX7_holds 12 = .ok (.iload_n 3, 1) := by decide +kernel
theorem dX7_holds_13 : decode cX7_holds 13 = .ok (.ifCond .ne 19, 3) := by decide +kernel
theorem dX7_holds_16 : decode cX7_holds 16 = .ok (.aload_n 0, 1) := by decide +kernel
theorem dX7_holds_17 : decode cX7_holds 17 = .ok (.getfield 10, 3) := by decide +kernel
theorem dX7_holds_20 : decode cX7_holds 20 = .ok (.getfield 231, 3) := by decide +kernel
theorem dX7_holds_23 : decode cX7_holds 23 = .ok (.getfield 270, 3) := by decide +kernel
theorem dX7_holds_26 : decode cX7_holds 26 = .ok (.iload_n 1, 1) := by decide +kernel
theorem dX7_holds_27 : decode cX7_holds 27 = .ok (.iload_n 2, 1) := by decide +kernel
theorem dX7_holds_28 : decode cX7_holds 28 = .ok (.invokevirtual 155, 3) := by decide +kernel
theorem dX7_holds_31 : decode cX7_holds 31 = .ok (.ireturn, 1) := by decide +kernel
theorem dX7_holds_32 : decode cX7_holds 32 = .ok (.iload_n 3, 1) := by decide +kernel
theorem dX7_holds_33 : decode cX7_holds 33 = .ok (.iconst 1, 1) := by decide +kernel
theorem dX7_holds_34 : decode cX7_holds 34 = .ok (.if_icmp .ne 19, 3) := by decide +kernel
theorem dX7_holds_37 : decode cX7_holds 37 = .ok (.aload_n 0, 1) := by decide +kernel
theorem dX7_holds_38 : decode cX7_holds 38 = .ok (.getfield 10, 3) := by decide +kernel
theorem dX7_holds_41 : decode cX7_holds 41 = .ok (.getfield 231, 3) := by decide +kernel
theorem dX7_holds_44 : decode cX7_holds 44 = .ok (.getfield 257, 3) := by decide +kernel
theorem dX7_holds_47 : decode cX7_holds 47 = .ok (.iload_n 1, 1) := by decide +kernel
theorem dX7_holds_48 : decode cX7_holds 48 = .ok (.iload_n 2, 1) := by decide +kernel
theorem dX7_holds_49 : decode cX7_holds 49 = .ok (.invokevirtual 155, 3) := by decide +kernel
theorem dX7_holds_52 : decode cX7_holds 52 = .ok (.ireturn, 1) := by decide +kernel
theorem dX7_holds_53 : decode cX7_holds 53 = .ok (.aload_n 0, 1) := by decide +kernel
theorem dX7_holds_54 : decode cX7_holds 54 = .ok (.getfield 38, 3) := by decide +kernel
theorem dX7_holds_57 : decode cX7_holds 57 = .ok (.iload_n 1, 1) := by decide +kernel
theorem dX7_holds_58 : decode cX7_holds 58 = .ok (.aload_n 0, 1) := by decide +kernel
theorem dX7_holds_59 : decode cX7_holds 59 = .ok (.getfield 10, 3) := by decide +kernel
theorem dX7_holds_62 : decode cX7_holds 62 = .ok (.getfield 231, 3) := by decide +kernel
theorem dX7_holds_65 : decode cX7_holds 65 = .ok (.iload_n 2, 1) := by decide +kernel
theorem dX7_holds_66 : decode cX7_holds 66 = .ok (.aload_n 0, 1) := by decide +kernel
theorem dX7_holds_67 : decode cX7_holds 67 = .ok (.getfield 38, 3) := by decide +kernel
theorem dX7_holds_70 : decode cX7_holds 70 = .ok (.invokevirtual 235, 3) := by decide +kernel
theorem dX7_holds_73 : decode cX7_holds 73 = .ok (.invokevirtual 276, 3) := by decide +kernel
theorem dX7_holds_76 : decode cX7_holds 76 = .ok (.ireturn, 1) := by decide +kernel
theorem dX7_listed_0 : decode cX7_listed 0 = .ok (.iload_n 1, 1) := by decide +kernel
theorem dX7_listed_1 : decode cX7_listed 1 = .ok (.aload_n 0, 1) := by decide +kernel
theorem dX7_listed_2 : decode cX7_listed 2 = .ok (.getfield 10, 3) := by decide +kernel
theorem dX7_listed_5 : decode cX7_listed 5 = .ok (.getfield 213, 3) := by decide +kernel
theorem dX7_listed_8 : decode cX7_listed 8 = .ok (.getfield 230, 3) := by decide +kernel
theorem dX7_listed_11 : decode cX7_listed 11 = .ok (.invokestatic 196, 3) := by decide +kernel
theorem dX7_listed_14 : decode cX7_listed 14 = .ok (.aload_n 0, 1) := by decide +kernel
theorem dX7_listed_15 : decode cX7_listed 15 = .ok (.getfield 10, 3) := by decide +kernel
theorem dX7_listed_18 : decode cX7_listed 18 = .ok (.getfield 231, 3) := by decide +kernel
theorem dX7_listed_21 : decode cX7_listed 21 = .ok (.iload_n 1, 1) := by decide +kernel
theorem dX7_listed_22 : decode cX7_listed 22 = .ok (.aload_n 0, 1) := by decide +kernel
theorem dX7_listed_23 : decode cX7_listed 23 = .ok (.getfield 38, 3) := by decide +kernel
theorem dX7_listed_26 : decode cX7_listed 26 = .ok (.invokevirtual 235, 3) := by decide +kernel
theorem dX7_listed_29 : decode cX7_listed 29 = .ok (.istore_n 3, 1) := by decide +kernel
theorem dX7_listed_30 : decode cX7_listed 30 = .ok (.iload_n 2, 1) := by decide +kernel
theorem dX7_listed_31 : decode cX7_listed 31 = .ok (.iconst 0, 1) := by decide +kernel
theorem dX7_listed_32 : decode cX7_listed 32 = .ok (.iload_n 3, 1) := by decide +kernel
theorem dX7_listed_33 : decode cX7_listed 33 = .ok (.iconst 1, 1) := by decide +kernel
theorem dX7_listed_34 : decode cX7_listed 34 = .ok (.isub, 1) := by decide +kernel
theorem dX7_listed_35 : decode cX7_listed 35 = .ok (.invokestatic 161, 3) := by decide +kernel
theorem dX7_listed_38 : decode cX7_listed 38 = .ok (.ifCond .ne 13, 3) := by decide +kernel
theorem dX7_listed_41 : decode cX7_listed 41 = .ok (.new 165, 3) := by decide +kernel
theorem dX7_listed_44 : decode cX7_listed 44 = .ok (.dup, 1) := by decide +kernel
theorem dX7_listed_45 : decode cX7_listed 45 = .ok (.ldc 183, 2) := by decide +kernel
theorem dX7_listed_47 : decode cX7_listed 47 = .ok (.invokespecial 169, 3) := by decide +kernel
theorem dX7_listed_50 : decode cX7_listed 50 = .ok (.athrow, 1) := by decide +kernel
theorem dX7_listed_51 : decode cX7_listed 51 = .ok (.aload_n 0, 1) := by decide +kernel
theorem dX7_listed_52 : decode cX7_listed 52 = .ok (.getfield 38, 3) := by decide +kernel
theorem dX7_listed_55 : decode cX7_listed 55 = .ok (.iconst 0, 1) := by decide +kernel
theorem dX7_listed_56 : decode cX7_listed 56 = .ok (.iload_n 2, 1) := by decide +kernel
theorem dX7_listed_57 : decode cX7_listed 57 = .ok (.invokevirtual 155, 3) := by decide +kernel
theorem dX7_listed_60 : decode cX7_listed 60 = .ok (.ireturn, 1) := by decide +kernel
theorem dX7_recalled_0 : decode cX7_recalled 0 = .ok (.aload_n 0, 1) := by decide +kernel
theorem dX7_recalled_1 : decode cX7_recalled 1 = .ok (.iload_n 1, 1) := by decide +kernel
theorem dX7_recalled_2 : decode cX7_recalled 2 = .ok (.invokevirtual 122, 3) := by decide +kernel
theorem dX7_recalled_5 : decode cX7_recalled 5 = .ok (.aload_n 0, 1) := by decide +kernel
theorem dX7_recalled_6 : decode cX7_recalled 6 = .ok (.getfield 10, 3) := by decide +kernel
theorem dX7_recalled_9 : decode cX7_recalled 9 = .ok (.getfield 213, 3) := by decide +kernel
theorem dX7_recalled_12 : decode cX7_recalled 12 = .ok (.aload_n 0, 1) := by decide +kernel
theorem dX7_recalled_13 : decode cX7_recalled 13 = .ok (.getfield 10, 3) := by decide +kernel
theorem dX7_recalled_16 : decode cX7_recalled 16 = .ok (.getfield 63, 3) := by decide +kernel
theorem dX7_recalled_19 : decode cX7_recalled 19 = .ok (.iload_n 1, 1) := by decide +kernel
theorem dX7_recalled_20 : decode cX7_recalled 20 = .ok (.invokevirtual 279, 3) := by decide +kernel
theorem dX7_recalled_23 : decode cX7_recalled 23 = .ok (.invokevirtual 282, 3) := by decide +kernel
theorem dX7_recalled_26 : decode cX7_recalled 26 = .ok (.ireturn, 1) := by decide +kernel
theorem dX7_recalledAgain_0 : decode cX7_recalledAgain 0 = .ok (.aload_n 0, 1) := by decide +kernel
theorem dX7_recalledAgain_1 : decode cX7_recalledAgain 1 = .ok (.iload_n 1, 1) := by decide +kernel
theorem dX7_recalledAgain_2 : decode cX7_recalledAgain 2 = .ok (.invokevirtual 122, 3) := by decide +kernel
theorem dX7_recalledAgain_5 : decode cX7_recalledAgain 5 = .ok (.iconst 0, 1) := by decide +kernel
theorem dX7_recalledAgain_6 : decode cX7_recalledAgain 6 = .ok (.istore_n 2, 1) := by decide +kernel
theorem dX7_recalledAgain_7 : decode cX7_recalledAgain 7 = .ok (.iconst 0, 1) := by decide +kernel
theorem dX7_recalledAgain_8 : decode cX7_recalledAgain 8 = .ok (.istore_n 3, 1) := by decide +kernel
theorem dX7_recalledAgain_9 : decode cX7_recalledAgain 9 = .ok (.iload_n 3, 1) := by decide +kernel
theorem dX7_recalledAgain_10 : decode cX7_recalledAgain 10 = .ok (.aload_n 0, 1) := by decide +kernel
theorem dX7_recalledAgain_11 : decode cX7_recalledAgain 11 = .ok (.getfield 10, 3) := by decide +kernel
theorem dX7_recalledAgain_14 : decode cX7_recalledAgain 14 = .ok (.getfield 213, 3) := by decide +kernel
theorem dX7_recalledAgain_17 : decode cX7_recalledAgain 17 = .ok (.getfield 230, 3) := by decide +kernel
theorem dX7_recalledAgain_20 : decode cX7_recalledAgain 20 = .ok (.if_icmp .ge 47, 3) := by decide +kernel
theorem dX7_recalledAgain_23 : decode cX7_recalledAgain 23 = .ok (.aload_n 0, 1) := by decide +kernel
theorem dX7_recalledAgain_24 : decode cX7_recalledAgain 24 = .ok (.getfield 10, 3) := by decide +kernel
theorem dX7_recalledAgain_27 : decode cX7_recalledAgain 27 = .ok (.getfield 63, 3) := by decide +kernel
theorem dX7_recalledAgain_30 : decode cX7_recalledAgain 30 = .ok (.aload_n 0, 1) := by decide +kernel
theorem dX7_recalledAgain_31 : decode cX7_recalledAgain 31 = .ok (.getfield 10, 3) := by decide +kernel
theorem dX7_recalledAgain_34 : decode cX7_recalledAgain 34 = .ok (.getfield 213, 3) := by decide +kernel
theorem dX7_recalledAgain_37 : decode cX7_recalledAgain 37 = .ok (.iload_n 3, 1) := by decide +kernel
theorem dX7_recalledAgain_38 : decode cX7_recalledAgain 38 = .ok (.invokevirtual 285, 3) := by decide +kernel
theorem dX7_recalledAgain_41 : decode cX7_recalledAgain 41 = .ok (.invokevirtual 288, 3) := by decide +kernel
theorem dX7_recalledAgain_44 : decode cX7_recalledAgain 44 = .ok (.istore 4, 2) := by decide +kernel
theorem dX7_recalledAgain_46 : decode cX7_recalledAgain 46 = .ok (.iload 4, 2) := by decide +kernel
theorem dX7_recalledAgain_48 : decode cX7_recalledAgain 48 = .ok (.iload_n 1, 1) := by decide +kernel
theorem dX7_recalledAgain_49 : decode cX7_recalledAgain 49 = .ok (.invokestatic 291, 3) := by decide +kernel
theorem dX7_recalledAgain_52 : decode cX7_recalledAgain 52 = .ok (.ifCond .eq 9, 3) := by decide +kernel
theorem dX7_recalledAgain_55 : decode cX7_recalledAgain 55 = .ok (.iload_n 2, 1) := by decide +kernel
theorem dX7_recalledAgain_56 : decode cX7_recalledAgain 56 = .ok (.iconst 1, 1) := by decide +kernel
theorem dX7_recalledAgain_57 : decode cX7_recalledAgain 57 = .ok (.iload_n 3, 1) := by decide +kernel
theorem dX7_recalledAgain_58 : decode cX7_recalledAgain 58 = .ok (.ishl, 1) := by decide +kernel
theorem dX7_recalledAgain_59 : decode cX7_recalledAgain 59 = .ok (.ior, 1) := by decide +kernel
theorem dX7_recalledAgain_60 : decode cX7_recalledAgain 60 = .ok (.istore_n 2, 1) := by decide +kernel
theorem dX7_recalledAgain_61 : decode cX7_recalledAgain 61 = .ok (.iinc 3 1, 3) := by decide +kernel
theorem dX7_recalledAgain_64 : decode cX7_recalledAgain 64 = .ok (.goto (-55), 3) := by decide +kernel
theorem dX7_recalledAgain_67 : decode cX7_recalledAgain 67 = .ok (.iload_n 2, 1) := by decide +kernel
theorem dX7_recalledAgain_68 : decode cX7_recalledAgain 68 = .ok (.ireturn, 1) := by decide +kernel
theorem dX7_bottlesOf_0 : decode cX7_bottlesOf 0 = .ok (.aload_n 0, 1) := by decide +kernel
theorem dX7_bottlesOf_1 : decode cX7_bottlesOf 1 = .ok (.iload_n 1, 1) := by decide +kernel
theorem dX7_bottlesOf_2 : decode cX7_bottlesOf 2 = .ok (.invokevirtual 122, 3) := by decide +kernel
theorem dX7_bottlesOf_5 : decode cX7_bottlesOf 5 = .ok (.iload_n 2, 1) := by decide +kernel
theorem dX7_bottlesOf_6 : decode cX7_bottlesOf 6 = .ok (.iconst (-1), 1) := by decide +kernel
theorem dX7_bottlesOf_7 : decode cX7_bottlesOf 7 = .ok (.if_icmp .eq 17, 3) := by decide +kernel
theorem dX7_bottlesOf_10 : decode cX7_bottlesOf 10 = .ok (.iload_n 2, 1) := by decide +kernel
theorem dX7_bottlesOf_11 : decode cX7_bottlesOf 11 = .ok (.aload_n 0, 1) := by decide +kernel
theorem dX7_bottlesOf_12 : decode cX7_bottlesOf 12 = .ok (.getfield 10, 3) := by decide +kernel
theorem dX7_bottlesOf_15 : decode cX7_bottlesOf 15 = .ok (.getfield 231, 3) := by decide +kernel
theorem dX7_bottlesOf_18 : decode cX7_bottlesOf 18 = .ok (.getfield 248, 3) := by decide +kernel
theorem dX7_bottlesOf_21 : decode cX7_bottlesOf 21 = .ok (.invokestatic 196, 3) := by decide +kernel
theorem dX7_bottlesOf_24 : decode cX7_bottlesOf 24 = .ok (.aload_n 0, 1) := by decide +kernel
theorem dX7_bottlesOf_25 : decode cX7_bottlesOf 25 = .ok (.getfield 10, 3) := by decide +kernel
theorem dX7_bottlesOf_28 : decode cX7_bottlesOf 28 = .ok (.getfield 213, 3) := by decide +kernel
theorem dX7_bottlesOf_31 : decode cX7_bottlesOf 31 = .ok (.aload_n 0, 1) := by decide +kernel
theorem dX7_bottlesOf_32 : decode cX7_bottlesOf 32 = .ok (.getfield 10, 3) := by decide +kernel
theorem dX7_bottlesOf_35 : decode cX7_bottlesOf 35 = .ok (.getfield 63, 3) := by decide +kernel
theorem dX7_bottlesOf_38 : decode cX7_bottlesOf 38 = .ok (.iload_n 1, 1) := by decide +kernel
theorem dX7_bottlesOf_39 : decode cX7_bottlesOf 39 = .ok (.invokevirtual 279, 3) := by decide +kernel
theorem dX7_bottlesOf_42 : decode cX7_bottlesOf 42 = .ok (.invokevirtual 282, 3) := by decide +kernel
theorem dX7_bottlesOf_45 : decode cX7_bottlesOf 45 = .ok (.istore_n 3, 1) := by decide +kernel
theorem dX7_bottlesOf_46 : decode cX7_bottlesOf 46 = .ok (.iload_n 2, 1) := by decide +kernel
theorem dX7_bottlesOf_47 : decode cX7_bottlesOf 47 = .ok (.iconst (-1), 1) := by decide +kernel
theorem dX7_bottlesOf_48 : decode cX7_bottlesOf 48 = .ok (.if_icmp .ne 17, 3) := by decide +kernel
theorem dX7_bottlesOf_51 : decode cX7_bottlesOf 51 = .ok (.aload_n 0, 1) := by decide +kernel
theorem dX7_bottlesOf_52 : decode cX7_bottlesOf 52 = .ok (.getfield 10, 3) := by decide +kernel
theorem dX7_bottlesOf_55 : decode cX7_bottlesOf 55 = .ok (.getfield 213, 3) := by decide +kernel
theorem dX7_bottlesOf_58 : decode cX7_bottlesOf 58 = .ok (.iload_n 3, 1) := by decide +kernel
theorem dX7_bottlesOf_59 : decode cX7_bottlesOf 59 = .ok (.invokevirtual 295, 3) := by decide +kernel
theorem dX7_bottlesOf_62 : decode cX7_bottlesOf 62 = .ok (.goto 15, 3) := by decide +kernel
theorem dX7_bottlesOf_65 : decode cX7_bottlesOf 65 = .ok (.aload_n 0, 1) := by decide +kernel
theorem dX7_bottlesOf_66 : decode cX7_bottlesOf 66 = .ok (.getfield 10, 3) := by decide +kernel
theorem dX7_bottlesOf_69 : decode cX7_bottlesOf 69 = .ok (.getfield 231, 3) := by decide +kernel
theorem dX7_bottlesOf_72 : decode cX7_bottlesOf 72 = .ok (.iload_n 2, 1) := by decide +kernel
theorem dX7_bottlesOf_73 : decode cX7_bottlesOf 73 = .ok (.iload_n 3, 1) := by decide +kernel
theorem dX7_bottlesOf_74 : decode cX7_bottlesOf 74 = .ok (.invokevirtual 298, 3) := by decide +kernel
theorem dX7_bottlesOf_77 : decode cX7_bottlesOf 77 = .ok (.ireturn, 1) := by decide +kernel
theorem dX7_ways_0 : decode cX7_ways 0 = .ok (.aload_n 0, 1) := by decide +kernel
theorem dX7_ways_1 : decode cX7_ways 1 = .ok (.iload_n 1, 1) := by decide +kernel
theorem dX7_ways_2 : decode cX7_ways 2 = .ok (.invokevirtual 122, 3) := by decide +kernel
theorem dX7_ways_5 : decode cX7_ways 5 = .ok (.aload_n 0, 1) := by decide +kernel
theorem dX7_ways_6 : decode cX7_ways 6 = .ok (.iload_n 2, 1) := by decide +kernel
theorem dX7_ways_7 : decode cX7_ways 7 = .ok (.invokevirtual 122, 3) := by decide +kernel
theorem dX7_ways_10 : decode cX7_ways 10 = .ok (.aload_n 0, 1) := by decide +kernel
theorem dX7_ways_11 : decode cX7_ways 11 = .ok (.getfield 10, 3) := by decide +kernel
theorem dX7_ways_14 : decode cX7_ways 14 = .ok (.getfield 63, 3) := by decide +kernel
theorem dX7_ways_17 : decode cX7_ways 17 = .ok (.iload_n 1, 1) := by decide +kernel
theorem dX7_ways_18 : decode cX7_ways 18 = .ok (.iload_n 2, 1) := by decide +kernel
theorem dX7_ways_19 : decode cX7_ways 19 = .ok (.aload_n 0, 1) := by decide +kernel
theorem dX7_ways_20 : decode cX7_ways 20 = .ok (.getfield 45, 3) := by decide +kernel
theorem dX7_ways_23 : decode cX7_ways 23 = .ok (.invokevirtual 301, 3) := by decide +kernel
theorem dX7_ways_26 : decode cX7_ways 26 = .ok (.ireturn, 1) := by decide +kernel
theorem dX7_account_0 : decode cX7_account 0 = .ok (.iload_n 1, 1) := by decide +kernel
theorem dX7_account_1 : decode cX7_account 1 = .ok (.iconst 0, 1) := by decide +kernel
theorem dX7_account_2 : decode cX7_account 2 = .ok (.bipush 11, 2) := by decide +kernel
theorem dX7_account_4 : decode cX7_account 4 = .ok (.invokestatic 59, 3) := by decide +kernel
theorem dX7_account_7 : decode cX7_account 7 = .ok (.iload_n 1, 1) := by decide +kernel
theorem dX7_account_8 : decode cX7_account 8 = .ok (.tableswitch 179 0 10 #[60, 71, 82, 93, 104, 116, 127, 138, 149, 160, 171], 60) := by decide +kernel
theorem dX7_account_68 : decode cX7_account 68 = .ok (.aload_n 0, 1) := by decide +kernel
theorem dX7_account_69 : decode cX7_account 69 = .ok (.getfield 10, 3) := by decide +kernel
theorem dX7_account_72 : decode cX7_account 72 = .ok (.getfield 63, 3) := by decide +kernel
theorem dX7_account_75 : decode cX7_account 75 = .ok (.invokevirtual 304, 3) := by decide +kernel
theorem dX7_account_78 : decode cX7_account 78 = .ok (.ireturn, 1) := by decide +kernel
theorem dX7_account_79 : decode cX7_account 79 = .ok (.aload_n 0, 1) := by decide +kernel
theorem dX7_account_80 : decode cX7_account 80 = .ok (.getfield 10, 3) := by decide +kernel
theorem dX7_account_83 : decode cX7_account 83 = .ok (.getfield 63, 3) := by decide +kernel
theorem dX7_account_86 : decode cX7_account 86 = .ok (.invokevirtual 308, 3) := by decide +kernel
theorem dX7_account_89 : decode cX7_account 89 = .ok (.ireturn, 1) := by decide +kernel
theorem dX7_account_90 : decode cX7_account 90 = .ok (.aload_n 0, 1) := by decide +kernel
theorem dX7_account_91 : decode cX7_account 91 = .ok (.getfield 10, 3) := by decide +kernel
theorem dX7_account_94 : decode cX7_account 94 = .ok (.getfield 213, 3) := by decide +kernel
theorem dX7_account_97 : decode cX7_account 97 = .ok (.invokevirtual 311, 3) := by decide +kernel
theorem dX7_account_100 : decode cX7_account 100 = .ok (.ireturn, 1) := by decide +kernel
theorem dX7_account_101 : decode cX7_account 101 = .ok (.aload_n 0, 1) := by decide +kernel
theorem dX7_account_102 : decode cX7_account 102 = .ok (.getfield 10, 3) := by decide +kernel
theorem dX7_account_105 : decode cX7_account 105 = .ok (.getfield 63, 3) := by decide +kernel
theorem dX7_account_108 : decode cX7_account 108 = .ok (.getfield 138, 3) := by decide +kernel
theorem dX7_account_111 : decode cX7_account 111 = .ok (.ireturn, 1) := by decide +kernel
theorem dX7_account_112 : decode cX7_account 112 = .ok (.aload_n 0, 1) := by decide +kernel
theorem dX7_account_113 : decode cX7_account 113 = .ok (.getfield 10, 3) := by decide +kernel
theorem dX7_account_116 : decode cX7_account 116 = .ok (.getfield 213, 3) := by decide +kernel
theorem dX7_account_119 : decode cX7_account 119 = .ok (.iconst (-1), 1) := by decide +kernel
theorem dX7_account_120 : decode cX7_account 120 = .ok (.invokevirtual 295, 3) := by decide +kernel
theorem dX7_account_123 : decode cX7_account 123 = .ok (.ireturn, 1) := by decide +kernel
theorem dX7_account_124 : decode cX7_account 124 = .ok (.aload_n 0, 1) := by decide +kernel
theorem dX7_account_125 : decode cX7_account 125 = .ok (.getfield 10, 3) := by decide +kernel
theorem dX7_account_128 : decode cX7_account 128 = .ok (.getfield 231, 3) := by decide +kernel
theorem dX7_account_131 : decode cX7_account 131 = .ok (.invokevirtual 314, 3) := by decide +kernel
theorem dX7_account_134 : decode cX7_account 134 = .ok (.ireturn, 1) := by decide +kernel
theorem dX7_account_135 : decode cX7_account 135 = .ok (.aload_n 0, 1) := by decide +kernel
theorem dX7_account_136 : decode cX7_account 136 = .ok (.getfield 10, 3) := by decide +kernel
theorem dX7_account_139 : decode cX7_account 139 = .ok (.getfield 63, 3) := by decide +kernel
theorem dX7_account_142 : decode cX7_account 142 = .ok (.getfield 67, 3) := by decide +kernel
theorem dX7_account_145 : decode cX7_account 145 = .ok (.ireturn, 1) := by decide +kernel
theorem dX7_account_146 : decode cX7_account 146 = .ok (.aload_n 0, 1) := by decide +kernel
theorem dX7_account_147 : decode cX7_account 147 = .ok (.getfield 10, 3) := by decide +kernel
theorem dX7_account_150 : decode cX7_account 150 = .ok (.getfield 63, 3) := by decide +kernel
theorem dX7_account_153 : decode cX7_account 153 = .ok (.getfield 72, 3) := by decide +kernel
theorem dX7_account_156 : decode cX7_account 156 = .ok (.ireturn, 1) := by decide +kernel
theorem dX7_account_157 : decode cX7_account 157 = .ok (.aload_n 0, 1) := by decide +kernel
theorem dX7_account_158 : decode cX7_account 158 = .ok (.getfield 10, 3) := by decide +kernel
theorem dX7_account_161 : decode cX7_account 161 = .ok (.getfield 213, 3) := by decide +kernel
theorem dX7_account_164 : decode cX7_account 164 = .ok (.getfield 230, 3) := by decide +kernel
theorem dX7_account_167 : decode cX7_account 167 = .ok (.ireturn, 1) := by decide +kernel
theorem dX7_account_168 : decode cX7_account 168 = .ok (.aload_n 0, 1) := by decide +kernel
theorem dX7_account_169 : decode cX7_account 169 = .ok (.getfield 10, 3) := by decide +kernel
theorem dX7_account_172 : decode cX7_account 172 = .ok (.getfield 231, 3) := by decide +kernel
theorem dX7_account_175 : decode cX7_account 175 = .ok (.getfield 248, 3) := by decide +kernel
theorem dX7_account_178 : decode cX7_account 178 = .ok (.ireturn, 1) := by decide +kernel
theorem dX7_account_179 : decode cX7_account 179 = .ok (.aload_n 0, 1) := by decide +kernel
theorem dX7_account_180 : decode cX7_account 180 = .ok (.getfield 22, 3) := by decide +kernel
theorem dX7_account_183 : decode cX7_account 183 = .ok (.getfield 317, 3) := by decide +kernel
theorem dX7_account_186 : decode cX7_account 186 = .ok (.ireturn, 1) := by decide +kernel
theorem dX7_account_187 : decode cX7_account 187 = .ok (.aload_n 0, 1) := by decide +kernel
theorem dX7_account_188 : decode cX7_account 188 = .ok (.getfield 29, 3) := by decide +kernel
theorem dX7_account_191 : decode cX7_account 191 = .ok (.getfield 94, 3) := by decide +kernel
theorem dX7_account_194 : decode cX7_account 194 = .ok (.ireturn, 1) := by decide +kernel
theorem dX7_feed_0 : decode cX7_feed 0 = .ok (.aload_n 0, 1) := by decide +kernel
theorem dX7_feed_1 : decode cX7_feed 1 = .ok (.getfield 29, 3) := by decide +kernel
theorem dX7_feed_4 : decode cX7_feed 4 = .ok (.getfield 94, 3) := by decide +kernel
theorem dX7_feed_7 : decode cX7_feed 7 = .ok (.bipush 40, 2) := by decide +kernel
theorem dX7_feed_9 : decode cX7_feed 9 = .ok (.if_icmp .lt 14, 3) := by decide +kernel
theorem dX7_feed_12 : decode cX7_feed 12 = .ok (.new 75, 3) := by decide +kernel
theorem dX7_feed_15 : decode cX7_feed 15 = .ok (.dup, 1) := by decide +kernel
theorem dX7_feed_16 : decode cX7_feed 16 = .ok (.ldc_w 318, 3) := by decide +kernel
theorem dX7_feed_19 : decode cX7_feed 19 = .ok (.invokespecial 79, 3) := by decide +kernel
theorem dX7_feed_22 : decode cX7_feed 22 = .ok (.athrow, 1) := by decide +kernel
theorem dX7_feed_23 : decode cX7_feed 23 = .ok (.aload_n 0, 1) := by decide +kernel
theorem dX7_feed_24 : decode cX7_feed 24 = .ok (.getfield 29, 3) := by decide +kernel
theorem dX7_feed_27 : decode cX7_feed 27 = .ok (.iload_n 1, 1) := by decide +kernel
theorem dX7_feed_28 : decode cX7_feed 28 = .ok (.invokevirtual 320, 3) := by decide +kernel
theorem dX7_feed_31 : decode cX7_feed 31 = .ok (.ireturn, 1) := by decide +kernel
theorem dX7_errorPosition_0 : decode cX7_errorPosition 0 = .ok (.aload_n 0, 1) := by decide +kernel
theorem dX7_errorPosition_1 : decode cX7_errorPosition 1 = .ok (.getfield 56, 3) := by decide +kernel
theorem dX7_errorPosition_4 : decode cX7_errorPosition 4 = .ok (.iconst (-1), 1) := by decide +kernel
theorem dX7_errorPosition_5 : decode cX7_errorPosition 5 = .ok (.if_icmp .ne 14, 3) := by decide +kernel
theorem dX7_errorPosition_8 : decode cX7_errorPosition 8 = .ok (.new 165, 3) := by decide +kernel
theorem dX7_errorPosition_11 : decode cX7_errorPosition 11 = .ok (.dup, 1) := by decide +kernel
theorem dX7_errorPosition_12 : decode cX7_errorPosition 12 = .ok (.ldc_w 324, 3) := by decide +kernel
theorem dX7_errorPosition_15 : decode cX7_errorPosition 15 = .ok (.invokespecial 169, 3) := by decide +kernel
theorem dX7_errorPosition_18 : decode cX7_errorPosition 18 = .ok (.athrow, 1) := by decide +kernel
theorem dX7_errorPosition_19 : decode cX7_errorPosition 19 = .ok (.aload_n 0, 1) := by decide +kernel
theorem dX7_errorPosition_20 : decode cX7_errorPosition 20 = .ok (.getfield 56, 3) := by decide +kernel
theorem dX7_errorPosition_23 : decode cX7_errorPosition 23 = .ok (.ireturn, 1) := by decide +kernel
theorem dX7_undo_0 : decode cX7_undo 0 = .ok (.aload_n 0, 1) := by decide +kernel
theorem dX7_undo_1 : decode cX7_undo 1 = .ok (.getfield 22, 3) := by decide +kernel
theorem dX7_undo_4 : decode cX7_undo 4 = .ok (.getfield 317, 3) := by decide +kernel
theorem dX7_undo_7 : decode cX7_undo 7 = .ok (.ifCond .gt 14, 3) := by decide +kernel
theorem dX7_undo_10 : decode cX7_undo 10 = .ok (.new 75, 3) := by decide +kernel
theorem dX7_undo_13 : decode cX7_undo 13 = .ok (.dup, 1) := by decide +kernel
theorem dX7_undo_14 : decode cX7_undo 14 = .ok (.ldc_w 326, 3) := by decide +kernel
theorem dX7_undo_17 : decode cX7_undo 17 = .ok (.invokespecial 79, 3) := by decide +kernel
theorem dX7_undo_20 : decode cX7_undo 20 = .ok (.athrow, 1) := by decide +kernel
theorem dX7_undo_21 : decode cX7_undo 21 = .ok (.aload_n 0, 1) := by decide +kernel
theorem dX7_undo_22 : decode cX7_undo 22 = .ok (.getfield 22, 3) := by decide +kernel
theorem dX7_undo_25 : decode cX7_undo 25 = .ok (.aload_n 0, 1) := by decide +kernel
theorem dX7_undo_26 : decode cX7_undo 26 = .ok (.getfield 10, 3) := by decide +kernel
theorem dX7_undo_29 : decode cX7_undo 29 = .ok (.invokevirtual 328, 3) := by decide +kernel
theorem dX7_undo_32 : decode cX7_undo 32 = .ok (.aload_n 0, 1) := by decide +kernel
theorem dX7_undo_33 : decode cX7_undo 33 = .ok (.getfield 22, 3) := by decide +kernel
theorem dX7_undo_36 : decode cX7_undo 36 = .ok (.getfield 317, 3) := by decide +kernel
theorem dX7_undo_39 : decode cX7_undo 39 = .ok (.ireturn, 1) := by decide +kernel
theorem dX7_save_0 : decode cX7_save 0 = .ok (.aload_n 0, 1) := by decide +kernel
theorem dX7_save_1 : decode cX7_save 1 = .ok (.getfield 16, 3) := by decide +kernel
theorem dX7_save_4 : decode cX7_save 4 = .ok (.aload_n 0, 1) := by decide +kernel
theorem dX7_save_5 : decode cX7_save 5 = .ok (.getfield 10, 3) := by decide +kernel
theorem dX7_save_8 : decode cX7_save 8 = .ok (.invokevirtual 331, 3) := by decide +kernel
theorem dX7_save_11 : decode cX7_save 11 = .ok (.aload_n 0, 1) := by decide +kernel
theorem dX7_save_12 : decode cX7_save 12 = .ok (.iconst 1, 1) := by decide +kernel
theorem dX7_save_13 : decode cX7_save 13 = .ok (.putfield 48, 3) := by decide +kernel
theorem dX7_save_16 : decode cX7_save 16 = .ok (.aload_n 0, 1) := by decide +kernel
theorem dX7_save_17 : decode cX7_save 17 = .ok (.getfield 10, 3) := by decide +kernel
theorem dX7_save_20 : decode cX7_save 20 = .ok (.getfield 63, 3) := by decide +kernel
theorem dX7_save_23 : decode cX7_save 23 = .ok (.getfield 67, 3) := by decide +kernel
theorem dX7_save_26 : decode cX7_save 26 = .ok (.ireturn, 1) := by decide +kernel
theorem dX7_restore_0 : decode cX7_restore 0 = .ok (.aload_n 0, 1) := by decide +kernel
theorem dX7_restore_1 : decode cX7_restore 1 = .ok (.getfield 48, 3) := by decide +kernel
theorem dX7_restore_4 : decode cX7_restore 4 = .ok (.ifCond .ne 14, 3) := by decide +kernel
theorem dX7_restore_7 : decode cX7_restore 7 = .ok (.new 75, 3) := by decide +kernel
theorem dX7_restore_10 : decode cX7_restore 10 = .ok (.dup, 1) := by decide +kernel
theorem dX7_restore_11 : decode cX7_restore 11 = .ok (.ldc_w 334, 3) := by decide +kernel
theorem dX7_restore_14 : decode cX7_restore 14 = .ok (.invokespecial 79, 3) := by decide +kernel
theorem dX7_restore_17 : decode cX7_restore 17 = .ok (.athrow, 1) := by decide +kernel
theorem dX7_restore_18 : decode cX7_restore 18 = .ok (.aload_n 0, 1) := by decide +kernel
theorem dX7_restore_19 : decode cX7_restore 19 = .ok (.getfield 10, 3) := by decide +kernel
theorem dX7_restore_22 : decode cX7_restore 22 = .ok (.aload_n 0, 1) := by decide +kernel
theorem dX7_restore_23 : decode cX7_restore 23 = .ok (.getfield 16, 3) := by decide +kernel
theorem dX7_restore_26 : decode cX7_restore 26 = .ok (.invokevirtual 331, 3) := by decide +kernel
theorem dX7_restore_29 : decode cX7_restore 29 = .ok (.aload_n 0, 1) := by decide +kernel
theorem dX7_restore_30 : decode cX7_restore 30 = .ok (.getfield 22, 3) := by decide +kernel
theorem dX7_restore_33 : decode cX7_restore 33 = .ok (.iconst 0, 1) := by decide +kernel
theorem dX7_restore_34 : decode cX7_restore 34 = .ok (.putfield 317, 3) := by decide +kernel
theorem dX7_restore_37 : decode cX7_restore 37 = .ok (.aload_n 0, 1) := by decide +kernel
theorem dX7_restore_38 : decode cX7_restore 38 = .ok (.getfield 10, 3) := by decide +kernel
theorem dX7_restore_41 : decode cX7_restore 41 = .ok (.getfield 63, 3) := by decide +kernel
theorem dX7_restore_44 : decode cX7_restore 44 = .ok (.getfield 67, 3) := by decide +kernel
theorem dX7_restore_47 : decode cX7_restore 47 = .ok (.ireturn, 1) := by decide +kernel
theorem dX7_isWithin_0 : decode cX7_isWithin 0 = .ok (.iload_n 0, 1) := by decide +kernel
theorem dX7_isWithin_1 : decode cX7_isWithin 1 = .ok (.iload_n 1, 1) := by decide +kernel
theorem dX7_isWithin_2 : decode cX7_isWithin 2 = .ok (.if_icmp .lt 12, 3) := by decide +kernel
theorem dX7_isWithin_5 : decode cX7_isWithin 5 = .ok (.iload_n 0, 1) := by decide +kernel
theorem dX7_isWithin_6 : decode cX7_isWithin 6 = .ok (.iload_n 2, 1) := by decide +kernel
theorem dX7_isWithin_7 : decode cX7_isWithin 7 = .ok (.if_icmp .gt 7, 3) := by decide +kernel
theorem dX7_isWithin_10 : decode cX7_isWithin 10 = .ok (.iconst 1, 1) := by decide +kernel
theorem dX7_isWithin_11 : decode cX7_isWithin 11 = .ok (.goto 4, 3) := by decide +kernel
theorem dX7_isWithin_14 : decode cX7_isWithin 14 = .ok (.iconst 0, 1) := by decide +kernel
theorem dX7_isWithin_15 : decode cX7_isWithin 15 = .ok (.ireturn, 1) := by decide +kernel
theorem dX7_isIn_0 : decode cX7_isIn 0 = .ok (.iload_n 0, 1) := by decide +kernel
theorem dX7_isIn_1 : decode cX7_isIn 1 = .ok (.iload_n 1, 1) := by decide +kernel
theorem dX7_isIn_2 : decode cX7_isIn 2 = .ok (.ishr, 1) := by decide +kernel
theorem dX7_isIn_3 : decode cX7_isIn 3 = .ok (.iconst 1, 1) := by decide +kernel
theorem dX7_isIn_4 : decode cX7_isIn 4 = .ok (.iand, 1) := by decide +kernel
theorem dX7_isIn_5 : decode cX7_isIn 5 = .ok (.iconst 1, 1) := by decide +kernel
theorem dX7_isIn_6 : decode cX7_isIn 6 = .ok (.if_icmp .ne 7, 3) := by decide +kernel
theorem dX7_isIn_9 : decode cX7_isIn 9 = .ok (.iconst 1, 1) := by decide +kernel
theorem dX7_isIn_10 : decode cX7_isIn 10 = .ok (.goto 4, 3) := by decide +kernel
theorem dX7_isIn_13 : decode cX7_isIn 13 = .ok (.iconst 0, 1) := by decide +kernel
theorem dX7_isIn_14 : decode cX7_isIn 14 = .ok (.ireturn, 1) := by decide +kernel
theorem dX7_requireNumber_0 : decode cX7_requireNumber 0 = .ok (.iload_n 0, 1) := by decide +kernel
theorem dX7_requireNumber_1 : decode cX7_requireNumber 1 = .ok (.iload_n 1, 1) := by decide +kernel
theorem dX7_requireNumber_2 : decode cX7_requireNumber 2 = .ok (.iload_n 2, 1) := by decide +kernel
theorem dX7_requireNumber_3 : decode cX7_requireNumber 3 = .ok (.invokestatic 161, 3) := by decide +kernel
theorem dX7_requireNumber_6 : decode cX7_requireNumber 6 = .ok (.ifCond .ne 14, 3) := by decide +kernel
theorem dX7_requireNumber_9 : decode cX7_requireNumber 9 = .ok (.new 100, 3) := by decide +kernel
theorem dX7_requireNumber_12 : decode cX7_requireNumber 12 = .ok (.dup, 1) := by decide +kernel
theorem dX7_requireNumber_13 : decode cX7_requireNumber 13 = .ok (.ldc_w 336, 3) := by decide +kernel
theorem dX7_requireNumber_16 : decode cX7_requireNumber 16 = .ok (.invokespecial 104, 3) := by decide +kernel
theorem dX7_requireNumber_19 : decode cX7_requireNumber 19 = .ok (.athrow, 1) := by decide +kernel
theorem dX7_requireNumber_20 : decode cX7_requireNumber 20 = .ok (.return_, 1) := by decide +kernel
theorem dX7_requirePlace_0 : decode cX7_requirePlace 0 = .ok (.iload_n 0, 1) := by decide +kernel
theorem dX7_requirePlace_1 : decode cX7_requirePlace 1 = .ok (.iconst 0, 1) := by decide +kernel
theorem dX7_requirePlace_2 : decode cX7_requirePlace 2 = .ok (.iload_n 1, 1) := by decide +kernel
theorem dX7_requirePlace_3 : decode cX7_requirePlace 3 = .ok (.iconst 1, 1) := by decide +kernel
theorem dX7_requirePlace_4 : decode cX7_requirePlace 4 = .ok (.isub, 1) := by decide +kernel
theorem dX7_requirePlace_5 : decode cX7_requirePlace 5 = .ok (.invokestatic 161, 3) := by decide +kernel
theorem dX7_requirePlace_8 : decode cX7_requirePlace 8 = .ok (.ifCond .ne 14, 3) := by decide +kernel
theorem dX7_requirePlace_11 : decode cX7_requirePlace 11 = .ok (.new 338, 3) := by decide +kernel
theorem dX7_requirePlace_14 : decode cX7_requirePlace 14 = .ok (.dup, 1) := by decide +kernel
theorem dX7_requirePlace_15 : decode cX7_requirePlace 15 = .ok (.ldc_w 340, 3) := by decide +kernel
theorem dX7_requirePlace_18 : decode cX7_requirePlace 18 = .ok (.invokespecial 342, 3) := by decide +kernel
theorem dX7_requirePlace_21 : decode cX7_requirePlace 21 = .ok (.athrow, 1) := by decide +kernel
theorem dX7_requirePlace_22 : decode cX7_requirePlace 22 = .ok (.return_, 1) := by decide +kernel
theorem dX7_requireLot_0 : decode cX7_requireLot 0 = .ok (.iload_n 1, 1) := by decide +kernel
theorem dX7_requireLot_1 : decode cX7_requireLot 1 = .ok (.aload_n 0, 1) := by decide +kernel
theorem dX7_requireLot_2 : decode cX7_requireLot 2 = .ok (.getfield 10, 3) := by decide +kernel
theorem dX7_requireLot_5 : decode cX7_requireLot 5 = .ok (.getfield 63, 3) := by decide +kernel
theorem dX7_requireLot_8 : decode cX7_requireLot 8 = .ok (.getfield 67, 3) := by decide +kernel
theorem dX7_requireLot_11 : decode cX7_requireLot 11 = .ok (.invokestatic 196, 3) := by decide +kernel
theorem dX7_requireLot_14 : decode cX7_requireLot 14 = .ok (.return_, 1) := by decide +kernel
theorem dX7_requireCustomerAndBottling_0 : decode cX7_requireCustomerAndBottling 0 = .ok (.iload_n 1, 1) := by decide +kernel
theorem dX7_requireCustomerAndBottling_1 : decode cX7_requireCustomerAndBottling 1 = .ok (.aload_n 0, 1) := by decide +kernel
theorem dX7_requireCustomerAndBottling_2 : decode cX7_requireCustomerAndBottling 2 = .ok (.getfield 10, 3) := by decide +kernel
theorem dX7_requireCustomerAndBottling_5 : decode cX7_requireCustomerAndBottling 5 = .ok (.getfield 231, 3) := by decide +kernel
theorem dX7_requireCustomerAndBottling_8 : decode cX7_requireCustomerAndBottling 8 = .ok (.getfield 248, 3) := by decide +kernel
theorem dX7_requireCustomerAndBottling_11 : decode cX7_requireCustomerAndBottling 11 = .ok (.invokestatic 196, 3) := by decide +kernel
theorem dX7_requireCustomerAndBottling_14 : decode cX7_requireCustomerAndBottling 14 = .ok (.iload_n 2, 1) := by decide +kernel
theorem dX7_requireCustomerAndBottling_15 : decode cX7_requireCustomerAndBottling 15 = .ok (.aload_n 0, 1) := by decide +kernel
theorem dX7_requireCustomerAndBottling_16 : decode cX7_requireCustomerAndBottling 16 = .ok (.getfield 10, 3) := by decide +kernel
theorem dX7_requireCustomerAndBottling_19 : decode cX7_requireCustomerAndBottling 19 = .ok (.getfield 213, 3) := by decide +kernel
theorem dX7_requireCustomerAndBottling_22 : decode cX7_requireCustomerAndBottling 22 = .ok (.getfield 230, 3) := by decide +kernel
theorem dX7_requireCustomerAndBottling_25 : decode cX7_requireCustomerAndBottling 25 = .ok (.invokestatic 196, 3) := by decide +kernel
theorem dX7_requireCustomerAndBottling_28 : decode cX7_requireCustomerAndBottling 28 = .ok (.return_, 1) := by decide +kernel
theorem dX7_requireLabel_0 : decode cX7_requireLabel 0 = .ok (.iload_n 0, 1) := by decide +kernel
theorem dX7_requireLabel_1 : decode cX7_requireLabel 1 = .ok (.iconst (-1), 1) := by decide +kernel
theorem dX7_requireLabel_2 : decode cX7_requireLabel 2 = .ok (.bipush 99, 2) := by decide +kernel
theorem dX7_requireLabel_4 : decode cX7_requireLabel 4 = .ok (.invokestatic 59, 3) := by decide +kernel
theorem dX7_requireLabel_7 : decode cX7_requireLabel 7 = .ok (.iload_n 1, 1) := by decide +kernel
theorem dX7_requireLabel_8 : decode cX7_requireLabel 8 = .ok (.iconst (-1), 1) := by decide +kernel
theorem dX7_requireLabel_9 : decode cX7_requireLabel 9 = .ok (.iconst 4, 1) := by decide +kernel
theorem dX7_requireLabel_10 : decode cX7_requireLabel 10 = .ok (.invokestatic 59, 3) := by decide +kernel
theorem dX7_requireLabel_13 : decode cX7_requireLabel 13 = .ok (.iload_n 2, 1) := by decide +kernel
theorem dX7_requireLabel_14 : decode cX7_requireLabel 14 = .ok (.iconst (-1), 1) := by decide +kernel
theorem dX7_requireLabel_15 : decode cX7_requireLabel 15 = .ok (.iconst 4, 1) := by decide +kernel
theorem dX7_requireLabel_16 : decode cX7_requireLabel 16 = .ok (.invokestatic 59, 3) := by decide +kernel
theorem dX7_requireLabel_19 : decode cX7_requireLabel 19 = .ok (.iload_n 3, 1) := by decide +kernel
theorem dX7_requireLabel_20 : decode cX7_requireLabel 20 = .ok (.iconst (-1), 1) := by decide +kernel
theorem dX7_requireLabel_21 : decode cX7_requireLabel 21 = .ok (.iconst 3, 1) := by decide +kernel
theorem dX7_requireLabel_22 : decode cX7_requireLabel 22 = .ok (.invokestatic 59, 3) := by decide +kernel
theorem dX7_requireLabel_25 : decode cX7_requireLabel 25 = .ok (.iload_n 2, 1) := by decide +kernel
theorem dX7_requireLabel_26 : decode cX7_requireLabel 26 = .ok (.iconst (-1), 1) := by decide +kernel
theorem dX7_requireLabel_27 : decode cX7_requireLabel 27 = .ok (.if_icmp .eq 24, 3) := by decide +kernel
theorem dX7_requireLabel_30 : decode cX7_requireLabel 30 = .ok (.iload_n 1, 1) := by decide +kernel
theorem dX7_requireLabel_31 : decode cX7_requireLabel 31 = .ok (.iconst (-1), 1) := by decide +kernel
theorem dX7_requireLabel_32 : decode cX7_requireLabel 32 = .ok (.if_icmp .eq 8, 3) := by decide +kernel
theorem dX7_requireLabel_35 : decode cX7_requireLabel 35 = .ok (.iload_n 1, 1) := by decide +kernel
theorem dX7_requireLabel_36 : decode cX7_requireLabel 36 = .ok (.iload_n 2, 1) := by decide +kernel
theorem dX7_requireLabel_37 : decode cX7_requireLabel 37 = .ok (.if_icmp .ne 14, 3) := by decide +kernel
theorem dX7_requireLabel_40 : decode cX7_requireLabel 40 = .ok (.new 100, 3) := by decide +kernel
theorem dX7_requireLabel_43 : decode cX7_requireLabel 43 = .ok (.dup, 1) := by decide +kernel
theorem dX7_requireLabel_44 : decode cX7_requireLabel 44 = .ok (.ldc_w 343, 3) := by decide +kernel
theorem dX7_requireLabel_47 : decode cX7_requireLabel 47 = .ok (.invokespecial 104, 3) := by decide +kernel
theorem dX7_requireLabel_50 : decode cX7_requireLabel 50 = .ok (.athrow, 1) := by decide +kernel
theorem dX7_requireLabel_51 : decode cX7_requireLabel 51 = .ok (.return_, 1) := by decide +kernel
theorem dX7_requireNoRefusal_0 : decode cX7_requireNoRefusal 0 = .ok (.iload_n 1, 1) := by decide +kernel
theorem dX7_requireNoRefusal_1 : decode cX7_requireNoRefusal 1 = .ok (.ifCond .eq 19, 3) := by decide +kernel
theorem dX7_requireNoRefusal_4 : decode cX7_requireNoRefusal 4 = .ok (.aload_n 0, 1) := by decide +kernel
theorem dX7_requireNoRefusal_5 : decode cX7_requireNoRefusal 5 = .ok (.iload_n 1, 1) := by decide +kernel
theorem dX7_requireNoRefusal_6 : decode cX7_requireNoRefusal 6 = .ok (.putfield 52, 3) := by decide +kernel
theorem dX7_requireNoRefusal_9 : decode cX7_requireNoRefusal 9 = .ok (.new 75, 3) := by decide +kernel
theorem dX7_requireNoRefusal_12 : decode cX7_requireNoRefusal 12 = .ok (.dup, 1) := by decide +kernel
theorem dX7_requireNoRefusal_13 : decode cX7_requireNoRefusal 13 = .ok (.ldc_w 345, 3) := by decide +kernel
theorem dX7_requireNoRefusal_16 : decode cX7_requireNoRefusal 16 = .ok (.invokespecial 79, 3) := by decide +kernel
theorem dX7_requireNoRefusal_19 : decode cX7_requireNoRefusal 19 = .ok (.athrow, 1) := by decide +kernel
theorem dX7_requireNoRefusal_20 : decode cX7_requireNoRefusal 20 = .ok (.return_, 1) := by decide +kernel
theorem dJ6_bitCount_0f7a4_0 : decode cJ6_bitCount_0f7a4 0 = .ok (.iload_n 0, 1) := by decide +kernel
theorem dJ6_bitCount_0f7a4_1 : decode cJ6_bitCount_0f7a4 1 = .ok (.iload_n 0, 1) := by decide +kernel
theorem dJ6_bitCount_0f7a4_2 : decode cJ6_bitCount_0f7a4 2 = .ok (.iconst 1, 1) := by decide +kernel
theorem dJ6_bitCount_0f7a4_3 : decode cJ6_bitCount_0f7a4 3 = .ok (.iushr, 1) := by decide +kernel
theorem dJ6_bitCount_0f7a4_4 : decode cJ6_bitCount_0f7a4 4 = .ok (.ldc_w 265, 3) := by decide +kernel
theorem dJ6_bitCount_0f7a4_7 : decode cJ6_bitCount_0f7a4 7 = .ok (.iand, 1) := by decide +kernel
theorem dJ6_bitCount_0f7a4_8 : decode cJ6_bitCount_0f7a4 8 = .ok (.isub, 1) := by decide +kernel
theorem dJ6_bitCount_0f7a4_9 : decode cJ6_bitCount_0f7a4 9 = .ok (.istore_n 0, 1) := by decide +kernel
theorem dJ6_bitCount_0f7a4_10 : decode cJ6_bitCount_0f7a4 10 = .ok (.iload_n 0, 1) := by decide +kernel
theorem dJ6_bitCount_0f7a4_11 : decode cJ6_bitCount_0f7a4 11 = .ok (.ldc_w 266, 3) := by decide +kernel
theorem dJ6_bitCount_0f7a4_14 : decode cJ6_bitCount_0f7a4 14 = .ok (.iand, 1) := by decide +kernel
theorem dJ6_bitCount_0f7a4_15 : decode cJ6_bitCount_0f7a4 15 = .ok (.iload_n 0, 1) := by decide +kernel
theorem dJ6_bitCount_0f7a4_16 : decode cJ6_bitCount_0f7a4 16 = .ok (.iconst 2, 1) := by decide +kernel
theorem dJ6_bitCount_0f7a4_17 : decode cJ6_bitCount_0f7a4 17 = .ok (.iushr, 1) := by decide +kernel
theorem dJ6_bitCount_0f7a4_18 : decode cJ6_bitCount_0f7a4 18 = .ok (.ldc_w 266, 3) := by decide +kernel
theorem dJ6_bitCount_0f7a4_21 : decode cJ6_bitCount_0f7a4 21 = .ok (.iand, 1) := by decide +kernel
theorem dJ6_bitCount_0f7a4_22 : decode cJ6_bitCount_0f7a4 22 = .ok (.iadd, 1) := by decide +kernel
theorem dJ6_bitCount_0f7a4_23 : decode cJ6_bitCount_0f7a4 23 = .ok (.istore_n 0, 1) := by decide +kernel
theorem dJ6_bitCount_0f7a4_24 : decode cJ6_bitCount_0f7a4 24 = .ok (.iload_n 0, 1) := by decide +kernel
theorem dJ6_bitCount_0f7a4_25 : decode cJ6_bitCount_0f7a4 25 = .ok (.iload_n 0, 1) := by decide +kernel
theorem dJ6_bitCount_0f7a4_26 : decode cJ6_bitCount_0f7a4 26 = .ok (.iconst 4, 1) := by decide +kernel
theorem dJ6_bitCount_0f7a4_27 : decode cJ6_bitCount_0f7a4 27 = .ok (.iushr, 1) := by decide +kernel
theorem dJ6_bitCount_0f7a4_28 : decode cJ6_bitCount_0f7a4 28 = .ok (.iadd, 1) := by decide +kernel
theorem dJ6_bitCount_0f7a4_29 : decode cJ6_bitCount_0f7a4 29 = .ok (.ldc_w 267, 3) := by decide +kernel
theorem dJ6_bitCount_0f7a4_32 : decode cJ6_bitCount_0f7a4 32 = .ok (.iand, 1) := by decide +kernel
theorem dJ6_bitCount_0f7a4_33 : decode cJ6_bitCount_0f7a4 33 = .ok (.istore_n 0, 1) := by decide +kernel
theorem dJ6_bitCount_0f7a4_34 : decode cJ6_bitCount_0f7a4 34 = .ok (.iload_n 0, 1) := by decide +kernel
theorem dJ6_bitCount_0f7a4_35 : decode cJ6_bitCount_0f7a4 35 = .ok (.iload_n 0, 1) := by decide +kernel
theorem dJ6_bitCount_0f7a4_36 : decode cJ6_bitCount_0f7a4 36 = .ok (.bipush 8, 2) := by decide +kernel
theorem dJ6_bitCount_0f7a4_38 : decode cJ6_bitCount_0f7a4 38 = .ok (.iushr, 1) := by decide +kernel
theorem dJ6_bitCount_0f7a4_39 : decode cJ6_bitCount_0f7a4 39 = .ok (.iadd, 1) := by decide +kernel
theorem dJ6_bitCount_0f7a4_40 : decode cJ6_bitCount_0f7a4 40 = .ok (.istore_n 0, 1) := by decide +kernel
theorem dJ6_bitCount_0f7a4_41 : decode cJ6_bitCount_0f7a4 41 = .ok (.iload_n 0, 1) := by decide +kernel
theorem dJ6_bitCount_0f7a4_42 : decode cJ6_bitCount_0f7a4 42 = .ok (.iload_n 0, 1) := by decide +kernel
theorem dJ6_bitCount_0f7a4_43 : decode cJ6_bitCount_0f7a4 43 = .ok (.bipush 16, 2) := by decide +kernel
theorem dJ6_bitCount_0f7a4_45 : decode cJ6_bitCount_0f7a4 45 = .ok (.iushr, 1) := by decide +kernel
theorem dJ6_bitCount_0f7a4_46 : decode cJ6_bitCount_0f7a4 46 = .ok (.iadd, 1) := by decide +kernel
theorem dJ6_bitCount_0f7a4_47 : decode cJ6_bitCount_0f7a4 47 = .ok (.istore_n 0, 1) := by decide +kernel
theorem dJ6_bitCount_0f7a4_48 : decode cJ6_bitCount_0f7a4 48 = .ok (.iload_n 0, 1) := by decide +kernel
theorem dJ6_bitCount_0f7a4_49 : decode cJ6_bitCount_0f7a4 49 = .ok (.bipush 63, 2) := by decide +kernel
theorem dJ6_bitCount_0f7a4_51 : decode cJ6_bitCount_0f7a4 51 = .ok (.iand, 1) := by decide +kernel
theorem dJ6_bitCount_0f7a4_52 : decode cJ6_bitCount_0f7a4 52 = .ok (.ireturn, 1) := by decide +kernel
theorem dJ9_max_7cf53_0 : decode cJ9_max_7cf53 0 = .ok (.iload_n 0, 1) := by decide +kernel
theorem dJ9_max_7cf53_1 : decode cJ9_max_7cf53 1 = .ok (.iload_n 1, 1) := by decide +kernel
theorem dJ9_max_7cf53_2 : decode cJ9_max_7cf53 2 = .ok (.if_icmp .lt 7, 3) := by decide +kernel
theorem dJ9_max_7cf53_5 : decode cJ9_max_7cf53 5 = .ok (.iload_n 0, 1) := by decide +kernel
theorem dJ9_max_7cf53_6 : decode cJ9_max_7cf53 6 = .ok (.goto 4, 3) := by decide +kernel
theorem dJ9_max_7cf53_9 : decode cJ9_max_7cf53 9 = .ok (.iload_n 1, 1) := by decide +kernel
theorem dJ9_max_7cf53_10 : decode cJ9_max_7cf53 10 = .ok (.ireturn, 1) := by decide +kernel
theorem dJ9_min_7cf53_0 : decode cJ9_min_7cf53 0 = .ok (.iload_n 0, 1) := by decide +kernel
theorem dJ9_min_7cf53_1 : decode cJ9_min_7cf53 1 = .ok (.iload_n 1, 1) := by decide +kernel
theorem dJ9_min_7cf53_2 : decode cJ9_min_7cf53 2 = .ok (.if_icmp .gt 7, 3) := by decide +kernel
theorem dJ9_min_7cf53_5 : decode cJ9_min_7cf53 5 = .ok (.iload_n 0, 1) := by decide +kernel
theorem dJ9_min_7cf53_6 : decode cJ9_min_7cf53 6 = .ok (.goto 4, 3) := by decide +kernel
theorem dJ9_min_7cf53_9 : decode cJ9_min_7cf53 9 = .ok (.iload_n 1, 1) := by decide +kernel
theorem dJ9_min_7cf53_10 : decode cJ9_min_7cf53 10 = .ok (.ireturn, 1) := by decide +kernel
