theorem dL_harvest_0 : decode cL_harvest 0 = .ok (.aload 5, 2) := by decide +kernel
theorem dL_harvest_2 : decode cL_harvest 2 = .ok (.iconst 0, 1) := by decide +kernel
theorem dL_harvest_3 : decode cL_harvest 3 = .ok (.aload_n 0, 1) := by decide +kernel
theorem dL_harvest_4 : decode cL_harvest 4 = .ok (.iload_n 1, 1) := by decide +kernel
theorem dL_harvest_5 : decode cL_harvest 5 = .ok (.iload_n 2, 1) := by decide +kernel
theorem dL_harvest_6 : decode cL_harvest 6 = .ok (.iload_n 3, 1) := by decide +kernel
theorem dL_harvest_7 : decode cL_harvest 7 = .ok (.iload 4, 2) := by decide +kernel
theorem dL_harvest_9 : decode cL_harvest 9 = .ok (.invokevirtual 7, 3) := by decide +kernel
theorem dL_harvest_12 : decode cL_harvest 12 = .ok (.i2l, 1) := by decide +kernel
theorem dL_harvest_13 : decode cL_harvest 13 = .ok (.lastore, 1) := by decide +kernel
theorem dL_harvest_14 : decode cL_harvest 14 = .ok (.goto 11, 3) := by decide +kernel
theorem dL_harvest_17 : decode cL_harvest 17 = .ok (.astore 6, 2) := by decide +kernel
theorem dL_harvest_19 : decode cL_harvest 19 = .ok (.iconst 1, 1) := by decide +kernel
theorem dL_harvest_20 : decode cL_harvest 20 = .ok (.ireturn, 1) := by decide +kernel
theorem dL_harvest_21 : decode cL_harvest 21 = .ok (.astore 6, 2) := by decide +kernel
theorem dL_harvest_23 : decode cL_harvest 23 = .ok (.iconst 2, 1) := by decide +kernel
theorem dL_harvest_24 : decode cL_harvest 24 = .ok (.ireturn, 1) := by decide +kernel
theorem dL_harvest_25 : decode cL_harvest 25 = .ok (.iconst 0, 1) := by decide +kernel
theorem dL_harvest_26 : decode cL_harvest 26 = .ok (.ireturn, 1) := by decide +kernel
theorem dL_blend_0 : decode cL_blend 0 = .ok (.aload_n 1, 1) := by decide +kernel
theorem dL_blend_1 : decode cL_blend 1 = .ok (.iconst 0, 1) := by decide +kernel
theorem dL_blend_2 : decode cL_blend 2 = .ok (.aload_n 0, 1) := by decide +kernel
theorem dL_blend_3 : decode cL_blend 3 = .ok (.invokevirtual 17, 3) := by decide +kernel
theorem dL_blend_6 : decode cL_blend 6 = .ok (.i2l, 1) := by decide +kernel
theorem dL_blend_7 : decode cL_blend 7 = .ok (.lastore, 1) := by decide +kernel
theorem dL_blend_8 : decode cL_blend 8 = .ok (.goto 9, 3) := by decide +kernel
theorem dL_blend_11 : decode cL_blend 11 = .ok (.astore_n 2, 1) := by decide +kernel
theorem dL_blend_12 : decode cL_blend 12 = .ok (.iconst 1, 1) := by decide +kernel
theorem dL_blend_13 : decode cL_blend 13 = .ok (.ireturn, 1) := by decide +kernel
theorem dL_blend_14 : decode cL_blend 14 = .ok (.astore_n 2, 1) := by decide +kernel
theorem dL_blend_15 : decode cL_blend 15 = .ok (.iconst 2, 1) := by decide +kernel
theorem dL_blend_16 : decode cL_blend 16 = .ok (.ireturn, 1) := by decide +kernel
theorem dL_blend_17 : decode cL_blend 17 = .ok (.iconst 0, 1) := by decide +kernel
theorem dL_blend_18 : decode cL_blend 18 = .ok (.ireturn, 1) := by decide +kernel
theorem dL_spill_0 : decode cL_spill 0 = .ok (.aload_n 3, 1) := by decide +kernel
theorem dL_spill_1 : decode cL_spill 1 = .ok (.iconst 0, 1) := by decide +kernel
theorem dL_spill_2 : decode cL_spill 2 = .ok (.aload_n 0, 1) := by decide +kernel
theorem dL_spill_3 : decode cL_spill 3 = .ok (.iload_n 1, 1) := by decide +kernel
theorem dL_spill_4 : decode cL_spill 4 = .ok (.iload_n 2, 1) := by decide +kernel
theorem dL_spill_5 : decode cL_spill 5 = .ok (.invokevirtual 21, 3) := by decide +kernel
theorem dL_spill_8 : decode cL_spill 8 = .ok (.i2l, 1) := by decide +kernel
theorem dL_spill_9 : decode cL_spill 9 = .ok (.lastore, 1) := by decide +kernel
theorem dL_spill_10 : decode cL_spill 10 = .ok (.goto 11, 3) := by decide +kernel
theorem dL_spill_13 : decode cL_spill 13 = .ok (.astore 4, 2) := by decide +kernel
theorem dL_spill_15 : decode cL_spill 15 = .ok (.iconst 1, 1) := by decide +kernel
theorem dL_spill_16 : decode cL_spill 16 = .ok (.ireturn, 1) := by decide +kernel
theorem dL_spill_17 : decode cL_spill 17 = .ok (.astore 4, 2) := by decide +kernel
theorem dL_spill_19 : decode cL_spill 19 = .ok (.iconst 2, 1) := by decide +kernel
theorem dL_spill_20 : decode cL_spill 20 = .ok (.ireturn, 1) := by decide +kernel
theorem dL_spill_21 : decode cL_spill 21 = .ok (.iconst 0, 1) := by decide +kernel
theorem dL_spill_22 : decode cL_spill 22 = .ok (.ireturn, 1) := by decide +kernel
theorem dL_lot_0 : decode cL_lot 0 = .ok (.aload_n 3, 1) := by decide +kernel
theorem dL_lot_1 : decode cL_lot 1 = .ok (.iconst 0, 1) := by decide +kernel
theorem dL_lot_2 : decode cL_lot 2 = .ok (.aload_n 0, 1) := by decide +kernel
theorem dL_lot_3 : decode cL_lot 3 = .ok (.iload_n 1, 1) := by decide +kernel
theorem dL_lot_4 : decode cL_lot 4 = .ok (.iload_n 2, 1) := by decide +kernel
theorem dL_lot_5 : decode cL_lot 5 = .ok (.invokevirtual 27, 3) := by decide +kernel
theorem dL_lot_8 : decode cL_lot 8 = .ok (.i2l, 1) := by decide +kernel
theorem dL_lot_9 : decode cL_lot 9 = .ok (.lastore, 1) := by decide +kernel
theorem dL_lot_10 : decode cL_lot 10 = .ok (.goto 11, 3) := by decide +kernel
theorem dL_lot_13 : decode cL_lot 13 = .ok (.astore 4, 2) := by decide +kernel
theorem dL_lot_15 : decode cL_lot 15 = .ok (.iconst 1, 1) := by decide +kernel
theorem dL_lot_16 : decode cL_lot 16 = .ok (.ireturn, 1) := by decide +kernel
theorem dL_lot_17 : decode cL_lot 17 = .ok (.astore 4, 2) := by decide +kernel
theorem dL_lot_19 : decode cL_lot 19 = .ok (.iconst 2, 1) := by decide +kernel
theorem dL_lot_20 : decode cL_lot 20 = .ok (.ireturn, 1) := by decide +kernel
theorem dL_lot_21 : decode cL_lot 21 = .ok (.iconst 0, 1) := by decide +kernel
theorem dL_lot_22 : decode cL_lot 22 = .ok (.ireturn, 1) := by decide +kernel
theorem dL_part_0 : decode cL_part 0 = .ok (.aload 4, 2) := by decide +kernel
theorem dL_part_2 : decode cL_part 2 = .ok (.iconst 0, 1) := by decide +kernel
theorem dL_part_3 : decode cL_part 3 = .ok (.aload_n 0, 1) := by decide +kernel
theorem dL_part_4 : decode cL_part 4 = .ok (.iload_n 1, 1) := by decide +kernel
theorem dL_part_5 : decode cL_part 5 = .ok (.iload_n 2, 1) := by decide +kernel
theorem dL_part_6 : decode cL_part 6 = .ok (.iload_n 3, 1) := by decide +kernel
theorem dL_part_7 : decode cL_part 7 = .ok (.invokevirtual 30, 3) := by decide +kernel
theorem dL_part_10 : decode cL_part 10 = .ok (.i2l, 1) := by decide +kernel
theorem dL_part_11 : decode cL_part 11 = .ok (.lastore, 1) := by decide +kernel
theorem dL_part_12 : decode cL_part 12 = .ok (.goto 15, 3) := by decide +kernel
theorem dL_part_15 : decode cL_part 15 = .ok (.astore 5, 2) := by decide +kernel
theorem dL_part_17 : decode cL_part 17 = .ok (.iconst 1, 1) := by decide +kernel
theorem dL_part_18 : decode cL_part 18 = .ok (.ireturn, 1) := by decide +kernel
theorem dL_part_19 : decode cL_part 19 = .ok (.astore 5, 2) := by decide +kernel
theorem dL_part_21 : decode cL_part 21 = .ok (.iconst 2, 1) := by decide +kernel
theorem dL_part_22 : decode cL_part 22 = .ok (.ireturn, 1) := by decide +kernel
theorem dL_part_23 : decode cL_part 23 = .ok (.astore 5, 2) := by decide +kernel
theorem dL_part_25 : decode cL_part 25 = .ok (.iconst 3, 1) := by decide +kernel
theorem dL_part_26 : decode cL_part 26 = .ok (.ireturn, 1) := by decide +kernel
theorem dL_part_27 : decode cL_part 27 = .ok (.iconst 0, 1) := by decide +kernel
theorem dL_part_28 : decode cL_part 28 = .ok (.ireturn, 1) := by decide +kernel
theorem dL_share_0 : decode cL_share 0 = .ok (.aload 4, 2) := by decide +kernel
theorem dL_share_2 : decode cL_share 2 = .ok (.iconst 0, 1) := by decide +kernel
theorem dL_share_3 : decode cL_share 3 = .ok (.aload_n 0, 1) := by decide +kernel
theorem dL_share_4 : decode cL_share 4 = .ok (.iload_n 1, 1) := by decide +kernel
theorem dL_share_5 : decode cL_share 5 = .ok (.iload_n 2, 1) := by decide +kernel
theorem dL_share_6 : decode cL_share 6 = .ok (.iload_n 3, 1) := by decide +kernel
theorem dL_share_7 : decode cL_share 7 = .ok (.invokevirtual 36, 3) := by decide +kernel
theorem dL_share_10 : decode cL_share 10 = .ok (.i2l, 1) := by decide +kernel
theorem dL_share_11 : decode cL_share 11 = .ok (.lastore, 1) := by decide +kernel
theorem dL_share_12 : decode cL_share 12 = .ok (.goto 11, 3) := by decide +kernel
theorem dL_share_15 : decode cL_share 15 = .ok (.astore 5, 2) := by decide +kernel
theorem dL_share_17 : decode cL_share 17 = .ok (.iconst 1, 1) := by decide +kernel
theorem dL_share_18 : decode cL_share 18 = .ok (.ireturn, 1) := by decide +kernel
theorem dL_share_19 : decode cL_share 19 = .ok (.astore 5, 2) := by decide +kernel
theorem dL_share_21 : decode cL_share 21 = .ok (.iconst 2, 1) := by decide +kernel
theorem dL_share_22 : decode cL_share 22 = .ok (.ireturn, 1) := by decide +kernel
theorem dL_share_23 : decode cL_share 23 = .ok (.iconst 0, 1) := by decide +kernel
theorem dL_share_24 : decode cL_share 24 = .ok (.ireturn, 1) := by decide +kernel
theorem dL_greatest_0 : decode cL_greatest 0 = .ok (.aload_n 3, 1) := by decide +kernel
theorem dL_greatest_1 : decode cL_greatest 1 = .ok (.iconst 0, 1) := by decide +kernel
theorem dL_greatest_2 : decode cL_greatest 2 = .ok (.aload_n 0, 1) := by decide +kernel
theorem dL_greatest_3 : decode cL_greatest 3 = .ok (.iload_n 1, 1) := by decide +kernel
theorem dL_greatest_4 : decode cL_greatest 4 = .ok (.iload_n 2, 1) := by decide +kernel
theorem dL_greatest_5 : decode cL_greatest 5 = .ok (.invokevirtual 39, 3) := by decide +kernel
theorem dL_greatest_8 : decode cL_greatest 8 = .ok (.i2l, 1) := by decide +kernel
theorem dL_greatest_9 : decode cL_greatest 9 = .ok (.lastore, 1) := by decide +kernel
theorem dL_greatest_10 : decode cL_greatest 10 = .ok (.goto 11, 3) := by decide +kernel
theorem dL_greatest_13 : decode cL_greatest 13 = .ok (.astore 4, 2) := by decide +kernel
theorem dL_greatest_15 : decode cL_greatest 15 = .ok (.iconst 1, 1) := by decide +kernel
theorem dL_greatest_16 : decode cL_greatest 16 = .ok (.ireturn, 1) := by decide +kernel
theorem dL_greatest_17 : decode cL_greatest 17 = .ok (.astore 4, 2) := by decide +kernel
theorem dL_greatest_19 : decode cL_greatest 19 = .ok (.iconst 2, 1) := by decide +kernel
theorem dL_greatest_20 : decode cL_greatest 20 = .ok (.ireturn, 1) := by decide +kernel
theorem dL_greatest_21 : decode cL_greatest 21 = .ok (.iconst 0, 1) := by decide +kernel
theorem dL_greatest_22 : decode cL_greatest 22 = .ok (.ireturn, 1) := by decide +kernel
theorem dL_meanVintage_0 : decode cL_meanVintage 0 = .ok (.aload_n 2, 1) := by decide +kernel
theorem dL_meanVintage_1 : decode cL_meanVintage 1 = .ok (.iconst 0, 1) := by decide +kernel
theorem dL_meanVintage_2 : decode cL_meanVintage 2 = .ok (.aload_n 0, 1) := by decide +kernel
theorem dL_meanVintage_3 : decode cL_meanVintage 3 = .ok (.iload_n 1, 1) := by decide +kernel
theorem dL_meanVintage_4 : decode cL_meanVintage 4 = .ok (.invokevirtual 42, 3) := by decide +kernel
theorem dL_meanVintage_7 : decode cL_meanVintage 7 = .ok (.dastore, 1) := by decide +kernel
theorem dL_meanVintage_8 : decode cL_meanVintage 8 = .ok (.goto 6, 3) := by decide +kernel
theorem dL_meanVintage_11 : decode cL_meanVintage 11 = .ok (.astore_n 3, 1) := by decide +kernel
theorem dL_meanVintage_12 : decode cL_meanVintage 12 = .ok (.iconst 1, 1) := by decide +kernel
theorem dL_meanVintage_13 : decode cL_meanVintage 13 = .ok (.ireturn, 1) := by decide +kernel
theorem dL_meanVintage_14 : decode cL_meanVintage 14 = .ok (.iconst 0, 1) := by decide +kernel
theorem dL_meanVintage_15 : decode cL_meanVintage 15 = .ok (.ireturn, 1) := by decide +kernel
theorem dL_setLaw_0 : decode cL_setLaw 0 = .ok (.aload_n 3, 1) := by decide +kernel
theorem dL_setLaw_1 : decode cL_setLaw 1 = .ok (.iconst 0, 1) := by decide +kernel
theorem dL_setLaw_2 : decode cL_setLaw 2 = .ok (.aload_n 0, 1) := by decide +kernel
theorem dL_setLaw_3 : decode cL_setLaw 3 = .ok (.iload_n 1, 1) := by decide +kernel
theorem dL_setLaw_4 : decode cL_setLaw 4 = .ok (.iload_n 2, 1) := by decide +kernel
theorem dL_setLaw_5 : decode cL_setLaw 5 = .ok (.invokevirtual 46, 3) := by decide +kernel
theorem dL_setLaw_8 : decode cL_setLaw 8 = .ok (.i2l, 1) := by decide +kernel
theorem dL_setLaw_9 : decode cL_setLaw 9 = .ok (.lastore, 1) := by decide +kernel
theorem dL_setLaw_10 : decode cL_setLaw 10 = .ok (.goto 11, 3) := by decide +kernel
theorem dL_setLaw_13 : decode cL_setLaw 13 = .ok (.astore 4, 2) := by decide +kernel
theorem dL_setLaw_15 : decode cL_setLaw 15 = .ok (.iconst 1, 1) := by decide +kernel
theorem dL_setLaw_16 : decode cL_setLaw 16 = .ok (.ireturn, 1) := by decide +kernel
theorem dL_setLaw_17 : decode cL_setLaw 17 = .ok (.astore 4, 2) := by decide +kernel
theorem dL_setLaw_19 : decode cL_setLaw 19 = .ok (.iconst 2, 1) := by decide +kernel
theorem dL_setLaw_20 : decode cL_setLaw 20 = .ok (.ireturn, 1) := by decide +kernel
theorem dL_setLaw_21 : decode cL_setLaw 21 = .ok (.iconst 0, 1) := by decide +kernel
theorem dL_setLaw_22 : decode cL_setLaw 22 = .ok (.ireturn, 1) := by decide +kernel
theorem dL_bottle_0 : decode cL_bottle 0 = .ok (.aload 7, 2) := by decide +kernel
theorem dL_bottle_2 : decode cL_bottle 2 = .ok (.iconst 0, 1) := by decide +kernel
theorem dL_bottle_3 : decode cL_bottle 3 = .ok (.aload_n 0, 1) := by decide +kernel
theorem dL_bottle_4 : decode cL_bottle 4 = .ok (.iload_n 1, 1) := by decide +kernel
theorem dL_bottle_5 : decode cL_bottle 5 = .ok (.iload_n 2, 1) := by decide +kernel
theorem dL_bottle_6 : decode cL_bottle 6 = .ok (.iload_n 3, 1) := by decide +kernel
theorem dL_bottle_7 : decode cL_bottle 7 = .ok (.iload 4, 2) := by decide +kernel
theorem dL_bottle_9 : decode cL_bottle 9 = .ok (.iload 5, 2) := by decide +kernel
theorem dL_bottle_11 : decode cL_bottle 11 = .ok (.iload 6, 2) := by decide +kernel
theorem dL_bottle_13 : decode cL_bottle 13 = .ok (.invokevirtual 49, 3) := by decide +kernel
theorem dL_bottle_16 : decode cL_bottle 16 = .ok (.i2l, 1) := by decide +kernel
theorem dL_bottle_17 : decode cL_bottle 17 = .ok (.lastore, 1) := by decide +kernel
theorem dL_bottle_18 : decode cL_bottle 18 = .ok (.goto 15, 3) := by decide +kernel
theorem dL_bottle_21 : decode cL_bottle 21 = .ok (.astore 8, 2) := by decide +kernel
theorem dL_bottle_23 : decode cL_bottle 23 = .ok (.iconst 1, 1) := by decide +kernel
theorem dL_bottle_24 : decode cL_bottle 24 = .ok (.ireturn, 1) := by decide +kernel
theorem dL_bottle_25 : decode cL_bottle 25 = .ok (.astore 8, 2) := by decide +kernel
theorem dL_bottle_27 : decode cL_bottle 27 = .ok (.iconst 2, 1) := by decide +kernel
theorem dL_bottle_28 : decode cL_bottle 28 = .ok (.ireturn, 1) := by decide +kernel
theorem dL_bottle_29 : decode cL_bottle 29 = .ok (.astore 8, 2) := by decide +kernel
theorem dL_bottle_31 : decode cL_bottle 31 = .ok (.iconst 3, 1) := by decide +kernel
theorem dL_bottle_32 : decode cL_bottle 32 = .ok (.ireturn, 1) := by decide +kernel
theorem dL_bottle_33 : decode cL_bottle 33 = .ok (.iconst 0, 1) := by decide +kernel
theorem dL_bottle_34 : decode cL_bottle 34 = .ok (.ireturn, 1) := by decide +kernel
theorem dL_forbids_0 : decode cL_forbids 0 = .ok (.aload 6, 2) := by decide +kernel
theorem dL_forbids_2 : decode cL_forbids 2 = .ok (.iconst 0, 1) := by decide +kernel
theorem dL_forbids_3 : decode cL_forbids 3 = .ok (.aload_n 0, 1) := by decide +kernel
theorem dL_forbids_4 : decode cL_forbids 4 = .ok (.iload_n 1, 1) := by decide +kernel
theorem dL_forbids_5 : decode cL_forbids 5 = .ok (.iload_n 2, 1) := by decide +kernel
theorem dL_forbids_6 : decode cL_forbids 6 = .ok (.iload_n 3, 1) := by decide +kernel
theorem dL_forbids_7 : decode cL_forbids 7 = .ok (.iload 4, 2) := by decide +kernel
theorem dL_forbids_9 : decode cL_forbids 9 = .ok (.iload 5, 2) := by decide +kernel
theorem dL_forbids_11 : decode cL_forbids 11 = .ok (.invokevirtual 53, 3) := by decide +kernel
theorem dL_forbids_14 : decode cL_forbids 14 = .ok (.i2l, 1) := by decide +kernel
theorem dL_forbids_15 : decode cL_forbids 15 = .ok (.lastore, 1) := by decide +kernel
theorem dL_forbids_16 : decode cL_forbids 16 = .ok (.goto 11, 3) := by decide +kernel
theorem dL_forbids_19 : decode cL_forbids 19 = .ok (.astore 7, 2) := by decide +kernel
theorem dL_forbids_21 : decode cL_forbids 21 = .ok (.iconst 1, 1) := by decide +kernel
theorem dL_forbids_22 : decode cL_forbids 22 = .ok (.ireturn, 1) := by decide +kernel
theorem dL_forbids_23 : decode cL_forbids 23 = .ok (.astore 7, 2) := by decide +kernel
theorem dL_forbids_25 : decode cL_forbids 25 = .ok (.iconst 2, 1) := by decide +kernel
theorem dL_forbids_26 : decode cL_forbids 26 = .ok (.ireturn, 1) := by decide +kernel
theorem dL_forbids_27 : decode cL_forbids 27 = .ok (.iconst 0, 1) := by decide +kernel
theorem dL_forbids_28 : decode cL_forbids 28 = .ok (.ireturn, 1) := by decide +kernel
theorem dL_bottling_0 : decode cL_bottling 0 = .ok (.aload_n 3, 1) := by decide +kernel
theorem dL_bottling_1 : decode cL_bottling 1 = .ok (.iconst 0, 1) := by decide +kernel
theorem dL_bottling_2 : decode cL_bottling 2 = .ok (.aload_n 0, 1) := by decide +kernel
theorem dL_bottling_3 : decode cL_bottling 3 = .ok (.iload_n 1, 1) := by decide +kernel
theorem dL_bottling_4 : decode cL_bottling 4 = .ok (.iload_n 2, 1) := by decide +kernel
theorem dL_bottling_5 : decode cL_bottling 5 = .ok (.invokevirtual 57, 3) := by decide +kernel
theorem dL_bottling_8 : decode cL_bottling 8 = .ok (.i2l, 1) := by decide +kernel
theorem dL_bottling_9 : decode cL_bottling 9 = .ok (.lastore, 1) := by decide +kernel
theorem dL_bottling_10 : decode cL_bottling 10 = .ok (.goto 11, 3) := by decide +kernel
theorem dL_bottling_13 : decode cL_bottling 13 = .ok (.astore 4, 2) := by decide +kernel
theorem dL_bottling_15 : decode cL_bottling 15 = .ok (.iconst 1, 1) := by decide +kernel
theorem dL_bottling_16 : decode cL_bottling 16 = .ok (.ireturn, 1) := by decide +kernel
theorem dL_bottling_17 : decode cL_bottling 17 = .ok (.astore 4, 2) := by decide +kernel
theorem dL_bottling_19 : decode cL_bottling 19 = .ok (.iconst 2, 1) := by decide +kernel
theorem dL_bottling_20 : decode cL_bottling 20 = .ok (.ireturn, 1) := by decide +kernel
theorem dL_bottling_21 : decode cL_bottling 21 = .ok (.iconst 0, 1) := by decide +kernel
theorem dL_bottling_22 : decode cL_bottling 22 = .ok (.ireturn, 1) := by decide +kernel
theorem dL_reason_0 : decode cL_reason 0 = .ok (.aload_n 1, 1) := by decide +kernel
theorem dL_reason_1 : decode cL_reason 1 = .ok (.iconst 0, 1) := by decide +kernel
theorem dL_reason_2 : decode cL_reason 2 = .ok (.aload_n 0, 1) := by decide +kernel
theorem dL_reason_3 : decode cL_reason 3 = .ok (.invokevirtual 60, 3) := by decide +kernel
theorem dL_reason_6 : decode cL_reason 6 = .ok (.i2l, 1) := by decide +kernel
theorem dL_reason_7 : decode cL_reason 7 = .ok (.lastore, 1) := by decide +kernel
theorem dL_reason_8 : decode cL_reason 8 = .ok (.goto 6, 3) := by decide +kernel
theorem dL_reason_11 : decode cL_reason 11 = .ok (.astore_n 2, 1) := by decide +kernel
theorem dL_reason_12 : decode cL_reason 12 = .ok (.iconst 1, 1) := by decide +kernel
theorem dL_reason_13 : decode cL_reason 13 = .ok (.ireturn, 1) := by decide +kernel
theorem dL_reason_14 : decode cL_reason 14 = .ok (.iconst 0, 1) := by decide +kernel
theorem dL_reason_15 : decode cL_reason 15 = .ok (.ireturn, 1) := by decide +kernel
theorem dL_addCustomer_0 : decode cL_addCustomer 0 = .ok (.aload_n 2, 1) := by decide +kernel
theorem dL_addCustomer_1 : decode cL_addCustomer 1 = .ok (.iconst 0, 1) := by decide +kernel
theorem dL_addCustomer_2 : decode cL_addCustomer 2 = .ok (.aload_n 0, 1) := by decide +kernel
theorem dL_addCustomer_3 : decode cL_addCustomer 3 = .ok (.iload_n 1, 1) := by decide +kernel
theorem dL_addCustomer_4 : decode cL_addCustomer 4 = .ok (.invokevirtual 63, 3) := by decide +kernel
theorem dL_addCustomer_7 : decode cL_addCustomer 7 = .ok (.i2l, 1) := by decide +kernel
theorem dL_addCustomer_8 : decode cL_addCustomer 8 = .ok (.lastore, 1) := by decide +kernel
theorem dL_addCustomer_9 : decode cL_addCustomer 9 = .ok (.goto 9, 3) := by decide +kernel
theorem dL_addCustomer_12 : decode cL_addCustomer 12 = .ok (.astore_n 3, 1) := by decide +kernel
theorem dL_addCustomer_13 : decode cL_addCustomer 13 = .ok (.iconst 1, 1) := by decide +kernel
theorem dL_addCustomer_14 : decode cL_addCustomer 14 = .ok (.ireturn, 1) := by decide +kernel
theorem dL_addCustomer_15 : decode cL_addCustomer 15 = .ok (.astore_n 3, 1) := by decide +kernel
theorem dL_addCustomer_16 : decode cL_addCustomer 16 = .ok (.iconst 2, 1) := by decide +kernel
theorem dL_addCustomer_17 : decode cL_addCustomer 17 = .ok (.ireturn, 1) := by decide +kernel
theorem dL_addCustomer_18 : decode cL_addCustomer 18 = .ok (.iconst 0, 1) := by decide +kernel
theorem dL_addCustomer_19 : decode cL_addCustomer 19 = .ok (.ireturn, 1) := by decide +kernel
theorem dL_wish_0 : decode cL_wish 0 = .ok (.aload 4, 2) := by decide +kernel
theorem dL_wish_2 : decode cL_wish 2 = .ok (.iconst 0, 1) := by decide +kernel
theorem dL_wish_3 : decode cL_wish 3 = .ok (.aload_n 0, 1) := by decide +kernel
theorem dL_wish_4 : decode cL_wish 4 = .ok (.iload_n 1, 1) := by decide +kernel
theorem dL_wish_5 : decode cL_wish 5 = .ok (.iload_n 2, 1) := by decide +kernel
theorem dL_wish_6 : decode cL_wish 6 = .ok (.iload_n 3, 1) := by decide +kernel
theorem dL_wish_7 : decode cL_wish 7 = .ok (.invokevirtual 67, 3) := by decide +kernel
theorem dL_wish_10 : decode cL_wish 10 = .ok (.i2l, 1) := by decide +kernel
theorem dL_wish_11 : decode cL_wish 11 = .ok (.lastore, 1) := by decide +kernel
theorem dL_wish_12 : decode cL_wish 12 = .ok (.goto 11, 3) := by decide +kernel
theorem dL_wish_15 : decode cL_wish 15 = .ok (.astore 5, 2) := by decide +kernel
theorem dL_wish_17 : decode cL_wish 17 = .ok (.iconst 1, 1) := by decide +kernel
theorem dL_wish_18 : decode cL_wish 18 = .ok (.ireturn, 1) := by decide +kernel
theorem dL_wish_19 : decode cL_wish 19 = .ok (.astore 5, 2) := by decide +kernel
theorem dL_wish_21 : decode cL_wish 21 = .ok (.iconst 2, 1) := by decide +kernel
theorem dL_wish_22 : decode cL_wish 22 = .ok (.ireturn, 1) := by decide +kernel
theorem dL_wish_23 : decode cL_wish 23 = .ok (.iconst 0, 1) := by decide +kernel
theorem dL_wish_24 : decode cL_wish 24 = .ok (.ireturn, 1) := by decide +kernel
theorem dL_serve_0 : decode cL_serve 0 = .ok (.aload_n 2, 1) := by decide +kernel
theorem dL_serve_1 : decode cL_serve 1 = .ok (.iconst 0, 1) := by decide +kernel
theorem dL_serve_2 : decode cL_serve 2 = .ok (.aload_n 0, 1) := by decide +kernel
theorem dL_serve_3 : decode cL_serve 3 = .ok (.iload_n 1, 1) := by decide +kernel
theorem dL_serve_4 : decode cL_serve 4 = .ok (.invokevirtual 70, 3) := by decide +kernel
theorem dL_serve_7 : decode cL_serve 7 = .ok (.i2l, 1) := by decide +kernel
theorem dL_serve_8 : decode cL_serve 8 = .ok (.lastore, 1) := by decide +kernel
theorem dL_serve_9 : decode cL_serve 9 = .ok (.goto 6, 3) := by decide +kernel
theorem dL_serve_12 : decode cL_serve 12 = .ok (.astore_n 3, 1) := by decide +kernel
theorem dL_serve_13 : decode cL_serve 13 = .ok (.iconst 1, 1) := by decide +kernel
theorem dL_serve_14 : decode cL_serve 14 = .ok (.ireturn, 1) := by decide +kernel
theorem dL_serve_15 : decode cL_serve 15 = .ok (.iconst 0, 1) := by decide +kernel
theorem dL_serve_16 : decode cL_serve 16 = .ok (.ireturn, 1) := by decide +kernel
theorem dL_giveBack_0 : decode cL_giveBack 0 = .ok (.aload 4, 2) := by decide +kernel
theorem dL_giveBack_2 : decode cL_giveBack 2 = .ok (.iconst 0, 1) := by decide +kernel
theorem dL_giveBack_3 : decode cL_giveBack 3 = .ok (.aload_n 0, 1) := by decide +kernel
theorem dL_giveBack_4 : decode cL_giveBack 4 = .ok (.iload_n 1, 1) := by decide +kernel
theorem dL_giveBack_5 : decode cL_giveBack 5 = .ok (.iload_n 2, 1) := by decide +kernel
theorem dL_giveBack_6 : decode cL_giveBack 6 = .ok (.iload_n 3, 1) := by decide +kernel
theorem dL_giveBack_7 : decode cL_giveBack 7 = .ok (.invokevirtual 73, 3) := by decide +kernel
theorem dL_giveBack_10 : decode cL_giveBack 10 = .ok (.i2l, 1) := by decide +kernel
theorem dL_giveBack_11 : decode cL_giveBack 11 = .ok (.lastore, 1) := by decide +kernel
theorem dL_giveBack_12 : decode cL_giveBack 12 = .ok (.goto 11, 3) := by decide +kernel
theorem dL_giveBack_15 : decode cL_giveBack 15 = .ok (.astore 5, 2) := by decide +kernel
theorem dL_giveBack_17 : decode cL_giveBack 17 = .ok (.iconst 1, 1) := by decide +kernel
theorem dL_giveBack_18 : decode cL_giveBack 18 = .ok (.ireturn, 1) := by decide +kernel
theorem dL_giveBack_19 : decode cL_giveBack 19 = .ok (.astore 5, 2) := by decide +kernel
theorem dL_giveBack_21 : decode cL_giveBack 21 = .ok (.iconst 2, 1) := by decide +kernel
theorem dL_giveBack_22 : decode cL_giveBack 22 = .ok (.ireturn, 1) := by decide +kernel
theorem dL_giveBack_23 : decode cL_giveBack 23 = .ok (.iconst 0, 1) := by decide +kernel
theorem dL_giveBack_24 : decode cL_giveBack 24 = .ok (.ireturn, 1) := by decide +kernel
theorem dL_holds_0 : decode cL_holds 0 = .ok (.aload 4, 2) := by decide +kernel
theorem dL_holds_2 : decode cL_holds 2 = .ok (.iconst 0, 1) := by decide +kernel
theorem dL_holds_3 : decode cL_holds 3 = .ok (.aload_n 0, 1) := by decide +kernel
theorem dL_holds_4 : decode cL_holds 4 = .ok (.iload_n 1, 1) := by decide +kernel
theorem dL_holds_5 : decode cL_holds 5 = .ok (.iload_n 2, 1) := by decide +kernel
theorem dL_holds_6 : decode cL_holds 6 = .ok (.iload_n 3, 1) := by decide +kernel
theorem dL_holds_7 : decode cL_holds 7 = .ok (.invokevirtual 76, 3) := by decide +kernel
theorem dL_holds_10 : decode cL_holds 10 = .ok (.i2l, 1) := by decide +kernel
theorem dL_holds_11 : decode cL_holds 11 = .ok (.lastore, 1) := by decide +kernel
theorem dL_holds_12 : decode cL_holds 12 = .ok (.goto 11, 3) := by decide +kernel
theorem dL_holds_15 : decode cL_holds 15 = .ok (.astore 5, 2) := by decide +kernel
theorem dL_holds_17 : decode cL_holds 17 = .ok (.iconst 1, 1) := by decide +kernel
theorem dL_holds_18 : decode cL_holds 18 = .ok (.ireturn, 1) := by decide +kernel
theorem dL_holds_19 : decode cL_holds 19 = .ok (.astore 5, 2) := by decide +kernel
theorem dL_holds_21 : decode cL_holds 21 = .ok (.iconst 2, 1) := by decide +kernel
theorem dL_holds_22 : decode cL_holds 22 = .ok (.ireturn, 1) := by decide +kernel
theorem dL_holds_23 : decode cL_holds 23 = .ok (.iconst 0, 1) := by decide +kernel
theorem dL_holds_24 : decode cL_holds 24 = .ok (.ireturn, 1) := by decide +kernel
theorem dL_listed_0 : decode cL_listed 0 = .ok (.aload_n 3, 1) := by decide +kernel
theorem dL_listed_1 : decode cL_listed 1 = .ok (.iconst 0, 1) := by decide +kernel
theorem dL_listed_2 : decode cL_listed 2 = .ok (.aload_n 0, 1) := by decide +kernel
theorem dL_listed_3 : decode cL_listed 3 = .ok (.iload_n 1, 1) := by decide +kernel
theorem dL_listed_4 : decode cL_listed 4 = .ok (.iload_n 2, 1) := by decide +kernel
theorem dL_listed_5 : decode cL_listed 5 = .ok (.invokevirtual 79, 3) := by decide +kernel
theorem dL_listed_8 : decode cL_listed 8 = .ok (.i2l, 1) := by decide +kernel
theorem dL_listed_9 : decode cL_listed 9 = .ok (.lastore, 1) := by decide +kernel
theorem dL_listed_10 : decode cL_listed 10 = .ok (.goto 11, 3) := by decide +kernel
theorem dL_listed_13 : decode cL_listed 13 = .ok (.astore 4, 2) := by decide +kernel
theorem dL_listed_15 : decode cL_listed 15 = .ok (.iconst 1, 1) := by decide +kernel
theorem dL_listed_16 : decode cL_listed 16 = .ok (.ireturn, 1) := by decide +kernel
theorem dL_listed_17 : decode cL_listed 17 = .ok (.astore 4, 2) := by decide +kernel
theorem dL_listed_19 : decode cL_listed 19 = .ok (.iconst 2, 1) := by decide +kernel
theorem dL_listed_20 : decode cL_listed 20 = .ok (.ireturn, 1) := by decide +kernel
theorem dL_listed_21 : decode cL_listed 21 = .ok (.iconst 0, 1) := by decide +kernel
theorem dL_listed_22 : decode cL_listed 22 = .ok (.ireturn, 1) := by decide +kernel
theorem dL_recalled_0 : decode cL_recalled 0 = .ok (.aload_n 2, 1) := by decide +kernel
theorem dL_recalled_1 : decode cL_recalled 1 = .ok (.iconst 0, 1) := by decide +kernel
theorem dL_recalled_2 : decode cL_recalled 2 = .ok (.aload_n 0, 1) := by decide +kernel
theorem dL_recalled_3 : decode cL_recalled 3 = .ok (.iload_n 1, 1) := by decide +kernel
theorem dL_recalled_4 : decode cL_recalled 4 = .ok (.invokevirtual 82, 3) := by decide +kernel
theorem dL_recalled_7 : decode cL_recalled 7 = .ok (.i2l, 1) := by decide +kernel
theorem dL_recalled_8 : decode cL_recalled 8 = .ok (.lastore, 1) := by decide +kernel
theorem dL_recalled_9 : decode cL_recalled 9 = .ok (.goto 6, 3) := by decide +kernel
theorem dL_recalled_12 : decode cL_recalled 12 = .ok (.astore_n 3, 1) := by decide +kernel
theorem dL_recalled_13 : decode cL_recalled 13 = .ok (.iconst 1, 1) := by decide +kernel
theorem dL_recalled_14 : decode cL_recalled 14 = .ok (.ireturn, 1) := by decide +kernel
theorem dL_recalled_15 : decode cL_recalled 15 = .ok (.iconst 0, 1) := by decide +kernel
theorem dL_recalled_16 : decode cL_recalled 16 = .ok (.ireturn, 1) := by decide +kernel
theorem dL_recalledAgain_0 : decode cL_recalledAgain 0 = .ok (.aload_n 2, 1) := by decide +kernel
theorem dL_recalledAgain_1 : decode cL_recalledAgain 1 = .ok (.iconst 0, 1) := by decide +kernel
theorem dL_recalledAgain_2 : decode cL_recalledAgain 2 = .ok (.aload_n 0, 1) := by decide +kernel
theorem dL_recalledAgain_3 : decode cL_recalledAgain 3 = .ok (.iload_n 1, 1) := by decide +kernel
theorem dL_recalledAgain_4 : decode cL_recalledAgain 4 = .ok (.invokevirtual 85, 3) := by decide +kernel
theorem dL_recalledAgain_7 : decode cL_recalledAgain 7 = .ok (.i2l, 1) := by decide +kernel
theorem dL_recalledAgain_8 : decode cL_recalledAgain 8 = .ok (.lastore, 1) := by decide +kernel
theorem dL_recalledAgain_9 : decode cL_recalledAgain 9 = .ok (.goto 6, 3) := by decide +kernel
theorem dL_recalledAgain_12 : decode cL_recalledAgain 12 = .ok (.astore_n 3, 1) := by decide +kernel
theorem dL_recalledAgain_13 : decode cL_recalledAgain 13 = .ok (.iconst 1, 1) := by decide +kernel
theorem dL_recalledAgain_14 : decode cL_recalledAgain 14 = .ok (.ireturn, 1) := by decide +kernel
theorem dL_recalledAgain_15 : decode cL_recalledAgain 15 = .ok (.iconst 0, 1) := by decide +kernel
theorem dL_recalledAgain_16 : decode cL_recalledAgain 16 = .ok (.ireturn, 1) := by decide +kernel
theorem dL_bottlesOf_0 : decode cL_bottlesOf 0 = .ok (.aload_n 3, 1) := by decide +kernel
theorem dL_bottlesOf_1 : decode cL_bottlesOf 1 = .ok (.iconst 0, 1) := by decide +kernel
theorem dL_bottlesOf_2 : decode cL_bottlesOf 2 = .ok (.aload_n 0, 1) := by decide +kernel
theorem dL_bottlesOf_3 : decode cL_bottlesOf 3 = .ok (.iload_n 1, 1) := by decide +kernel
theorem dL_bottlesOf_4 : decode cL_bottlesOf 4 = .ok (.iload_n 2, 1) := by decide +kernel
theorem dL_bottlesOf_5 : decode cL_bottlesOf 5 = .ok (.invokevirtual 88, 3) := by decide +kernel
theorem dL_bottlesOf_8 : decode cL_bottlesOf 8 = .ok (.i2l, 1) := by decide +kernel
theorem dL_bottlesOf_9 : decode cL_bottlesOf 9 = .ok (.lastore, 1) := by decide +kernel
theorem dL_bottlesOf_10 : decode cL_bottlesOf 10 = .ok (.goto 7, 3) := by decide +kernel
theorem dL_bottlesOf_13 : decode cL_bottlesOf 13 = .ok (.astore 4, 2) := by decide +kernel
theorem dL_bottlesOf_15 : decode cL_bottlesOf 15 = .ok (.iconst 1, 1) := by decide +kernel
theorem dL_bottlesOf_16 : decode cL_bottlesOf 16 = .ok (.ireturn, 1) := by decide +kernel
theorem dL_bottlesOf_17 : decode cL_bottlesOf 17 = .ok (.iconst 0, 1) := by decide +kernel
theorem dL_bottlesOf_18 : decode cL_bottlesOf 18 = .ok (.ireturn, 1) := by decide +kernel
theorem dL_ways_0 : decode cL_ways 0 = .ok (.aload_n 3, 1) := by decide +kernel
theorem dL_ways_1 : decode cL_ways 1 = .ok (.iconst 0, 1) := by decide +kernel
theorem dL_ways_2 : decode cL_ways 2 = .ok (.aload_n 0, 1) := by decide +kernel
theorem dL_ways_3 : decode cL_ways 3 = .ok (.iload_n 1, 1) := by decide +kernel
theorem dL_ways_4 : decode cL_ways 4 = .ok (.iload_n 2, 1) := by decide +kernel
theorem dL_ways_5 : decode cL_ways 5 = .ok (.invokevirtual 91, 3) := by decide +kernel
theorem dL_ways_8 : decode cL_ways 8 = .ok (.i2l, 1) := by decide +kernel
theorem dL_ways_9 : decode cL_ways 9 = .ok (.lastore, 1) := by decide +kernel
theorem dL_ways_10 : decode cL_ways 10 = .ok (.goto 7, 3) := by decide +kernel
theorem dL_ways_13 : decode cL_ways 13 = .ok (.astore 4, 2) := by decide +kernel
theorem dL_ways_15 : decode cL_ways 15 = .ok (.iconst 1, 1) := by decide +kernel
theorem dL_ways_16 : decode cL_ways 16 = .ok (.ireturn, 1) := by decide +kernel
theorem dL_ways_17 : decode cL_ways 17 = .ok (.iconst 0, 1) := by decide +kernel
theorem dL_ways_18 : decode cL_ways 18 = .ok (.ireturn, 1) := by decide +kernel
theorem dL_account_0 : decode cL_account 0 = .ok (.aload_n 2, 1) := by decide +kernel
theorem dL_account_1 : decode cL_account 1 = .ok (.iconst 0, 1) := by decide +kernel
theorem dL_account_2 : decode cL_account 2 = .ok (.aload_n 0, 1) := by decide +kernel
theorem dL_account_3 : decode cL_account 3 = .ok (.iload_n 1, 1) := by decide +kernel
theorem dL_account_4 : decode cL_account 4 = .ok (.invokevirtual 94, 3) := by decide +kernel
theorem dL_account_7 : decode cL_account 7 = .ok (.i2l, 1) := by decide +kernel
theorem dL_account_8 : decode cL_account 8 = .ok (.lastore, 1) := by decide +kernel
theorem dL_account_9 : decode cL_account 9 = .ok (.goto 6, 3) := by decide +kernel
theorem dL_account_12 : decode cL_account 12 = .ok (.astore_n 3, 1) := by decide +kernel
theorem dL_account_13 : decode cL_account 13 = .ok (.iconst 1, 1) := by decide +kernel
theorem dL_account_14 : decode cL_account 14 = .ok (.ireturn, 1) := by decide +kernel
theorem dL_account_15 : decode cL_account 15 = .ok (.iconst 0, 1) := by decide +kernel
theorem dL_account_16 : decode cL_account 16 = .ok (.ireturn, 1) := by decide +kernel
theorem dL_feed_0 : decode cL_feed 0 = .ok (.aload_n 2, 1) := by decide +kernel
theorem dL_feed_1 : decode cL_feed 1 = .ok (.iconst 0, 1) := by decide +kernel
theorem dL_feed_2 : decode cL_feed 2 = .ok (.aload_n 0, 1) := by decide +kernel
theorem dL_feed_3 : decode cL_feed 3 = .ok (.iload_n 1, 1) := by decide +kernel
theorem dL_feed_4 : decode cL_feed 4 = .ok (.invokevirtual 97, 3) := by decide +kernel
theorem dL_feed_7 : decode cL_feed 7 = .ok (.i2l, 1) := by decide +kernel
theorem dL_feed_8 : decode cL_feed 8 = .ok (.lastore, 1) := by decide +kernel
theorem dL_feed_9 : decode cL_feed 9 = .ok (.goto 6, 3) := by decide +kernel
theorem dL_feed_12 : decode cL_feed 12 = .ok (.astore_n 3, 1) := by decide +kernel
theorem dL_feed_13 : decode cL_feed 13 = .ok (.iconst 1, 1) := by decide +kernel
theorem dL_feed_14 : decode cL_feed 14 = .ok (.ireturn, 1) := by decide +kernel
theorem dL_feed_15 : decode cL_feed 15 = .ok (.iconst 0, 1) := by decide +kernel
theorem dL_feed_16 : decode cL_feed 16 = .ok (.ireturn, 1) := by decide +kernel
theorem dL_errorPosition_0 : decode cL_errorPosition 0 = .ok (.aload_n 1, 1) := by decide +kernel
theorem dL_errorPosition_1 : decode cL_errorPosition 1 = .ok (.iconst 0, 1) := by decide +kernel
theorem dL_errorPosition_2 : decode cL_errorPosition 2 = .ok (.aload_n 0, 1) := by decide +kernel
theorem dL_errorPosition_3 : decode cL_errorPosition 3 = .ok (.invokevirtual 101, 3) := by decide +kernel
theorem dL_errorPosition_6 : decode cL_errorPosition 6 = .ok (.i2l, 1) := by decide +kernel
theorem dL_errorPosition_7 : decode cL_errorPosition 7 = .ok (.lastore, 1) := by decide +kernel
theorem dL_errorPosition_8 : decode cL_errorPosition 8 = .ok (.goto 6, 3) := by decide +kernel
theorem dL_errorPosition_11 : decode cL_errorPosition 11 = .ok (.astore_n 2, 1) := by decide +kernel
theorem dL_errorPosition_12 : decode cL_errorPosition 12 = .ok (.iconst 1, 1) := by decide +kernel
theorem dL_errorPosition_13 : decode cL_errorPosition 13 = .ok (.ireturn, 1) := by decide +kernel
theorem dL_errorPosition_14 : decode cL_errorPosition 14 = .ok (.iconst 0, 1) := by decide +kernel
theorem dL_errorPosition_15 : decode cL_errorPosition 15 = .ok (.ireturn, 1) := by decide +kernel
theorem dL_undo_0 : decode cL_undo 0 = .ok (.aload_n 1, 1) := by decide +kernel
theorem dL_undo_1 : decode cL_undo 1 = .ok (.iconst 0, 1) := by decide +kernel
theorem dL_undo_2 : decode cL_undo 2 = .ok (.aload_n 0, 1) := by decide +kernel
theorem dL_undo_3 : decode cL_undo 3 = .ok (.invokevirtual 104, 3) := by decide +kernel
theorem dL_undo_6 : decode cL_undo 6 = .ok (.i2l, 1) := by decide +kernel
theorem dL_undo_7 : decode cL_undo 7 = .ok (.lastore, 1) := by decide +kernel
theorem dL_undo_8 : decode cL_undo 8 = .ok (.goto 6, 3) := by decide +kernel
theorem dL_undo_11 : decode cL_undo 11 = .ok (.astore_n 2, 1) := by decide +kernel
theorem dL_undo_12 : decode cL_undo 12 = .ok (.iconst 1, 1) := by decide +kernel
theorem dL_undo_13 : decode cL_undo 13 = .ok (.ireturn, 1) := by decide +kernel
theorem dL_undo_14 : decode cL_undo 14 = .ok (.iconst 0, 1) := by decide +kernel
theorem dL_undo_15 : decode cL_undo 15 = .ok (.ireturn, 1) := by decide +kernel
theorem dL_restore_0 : decode cL_restore 0 = .ok (.aload_n 1, 1) := by decide +kernel
theorem dL_restore_1 : decode cL_restore 1 = .ok (.iconst 0, 1) := by decide +kernel
theorem dL_restore_2 : decode cL_restore 2 = .ok (.aload_n 0, 1) := by decide +kernel
theorem dL_restore_3 : decode cL_restore 3 = .ok (.invokevirtual 107, 3) := by decide +kernel
theorem dL_restore_6 : decode cL_restore 6 = .ok (.i2l, 1) := by decide +kernel
theorem dL_restore_7 : decode cL_restore 7 = .ok (.lastore, 1) := by decide +kernel
theorem dL_restore_8 : decode cL_restore 8 = .ok (.goto 6, 3) := by decide +kernel
theorem dL_restore_11 : decode cL_restore 11 = .ok (.astore_n 2, 1) := by decide +kernel
theorem dL_restore_12 : decode cL_restore 12 = .ok (.iconst 1, 1) := by decide +kernel
theorem dL_restore_13 : decode cL_restore 13 = .ok (.ireturn, 1) := by decide +kernel
theorem dL_restore_14 : decode cL_restore 14 = .ok (.iconst 0, 1) := by decide +kernel
theorem dL_restore_15 : decode cL_restore 15 = .ok (.ireturn, 1) := by decide +kernel

/-! THE LAW'S HELPERS: they call the book and catch -/
section PWL
variable {l : Launch} {G : GC} {cc : ByteArray} {own : String} {nL : Nat} {ret : Option FieldType} {hh : List (Nat × Nat × Nat × Nat)} {R : Room} {CX : gCtx} {E : gEnd}
variable {pc : Nat} {L : List (Option Value)} {rest : List Value} {S : List Sh} {ad : Nat → Nat} {h : HP} {cells slots : Nat}
theorem px_catch {Ex name : String} {st : List Value} {pre suf : List (Nat × Nat × Nat × Nat)} {x : Nat × Nat × Nat × Nat} (hhe : hh = pre ++ x :: suf) (hAO : ∀ s args meth A, CX s args meth A → gXt s)
    (hpass : ∀ z ∈ pre, z.2.2.2 ≠ 0 ∧ ∃ nm : String, Cond.classLink own z.2.2.2 nm ∈ gUW ∧ (Ex, nm) ∈ gNCs) (hx : covers ⟨x.1, x.2.1, x.2.2.1, x.2.2.2⟩ pc = true) (h0 : x.2.2.2 ≠ 0) (hlink : Cond.classLink own x.2.2.2 name ∈ gUW) (hcast : Cond.castable Ex name ∈ gNL)
    (kk : ∀ q : Nat, PW l G cc own nL ret hh R CX E x.2.2.1 L [.ref q] S ad h cells slots) : PX l G cc own nL ret hh R CX E pc L st S ad h cells slots Ex := by
  intro p e s m args below meth c A H locs ls ce q F hP hD hS' hl' hce hcv hcl
  obtain ⟨⟨hx9, hb, hml, hown, hts⟩, hr, hlk, htab, hA, hE, hcx⟩ := id F
  refine vx_catch (name := name) (E := Ex) hown (tableOf pre) ⟨x.1, x.2.1, x.2.2.1, x.2.2.2⟩ (tableOf suf) (by rw [htab, hhe]; simp [tableOf]) (fun z hz => ?_) hx h0 (hts _ hlink) (va_Nw.use (gNL_on hcast) (hE.2.1 _ hcast)) hce hcv hcl (kk q p e s m args below meth c A H locs ls F hP hD hS' hl')
  obtain ⟨y, hy, rfl⟩ := List.mem_map.mp hz
  obtain ⟨a1, nm, a2, a3⟩ := hpass y hy
  exact Or.inr ⟨a1, nm, hts _ a2, (hAO _ _ _ _ hcx).2 _ a3⟩
theorem pw_last {p n : Nat} {i x : Int32} {k : Nat} (hd : decode cc pc = .ok (.lastore, 1)) (hS : S[p]? = some (.inl (2, n))) (hin : vp_in i n) (hk : i.toNatClampNeg = k)
    (kk : PW l G cc own nL ret hh R CX E (pc + 1) L rest S ad (hput h p k x) cells slots) : PW l G cc own nL ret hh R CX E pc L (.long x.toInt64 :: .int i :: .ref (ad p) :: rest) S ad h cells slots := by
  intro p' e s m args below meth c A H locs ls F hP hD hS' hl'
  obtain ⟨⟨hx, hb, hml, hown, hts⟩, hr, hlk, htab, hA, hE, hcx⟩ := id F
  refine va_last hx hb hE.1 hP hD hS' p 2 (gW_at hS) rfl hin hd (fun H1 locs1 g1 g2 g3 => ?_)
  have e9 : (gW ad G.2.1 S h).set p (ad p, .inl (G.2.1 2, n, .inr (.inl (vp_updL (fun j => (h p j).toInt64) i.toNatClampNeg x.toInt64)))) = gW ad G.2.1 S (hput h p k x) := by
    rw [← gW_set (h' := hput h p k x) hS (fun q hq => hput_ne h k x hq), hput_self]
    have e8 : vp_updL (fun j => (h p j).toInt64) i.toNatClampNeg x.toInt64 = fun j => (upd (h p) k x j).toInt64 := by
      funext j
      rw [hk]
      by_cases hj : j = k
      · simp [vp_updL, upd, hj]
      · simp [vp_updL, upd, hj]
    rw [e8]; rfl
  rw [e9] at g1 g2
  exact kk p' e s m args below meth c A H1 locs1 ls F g1 g2 g3 hl'
theorem pw_dast {p n : Nat} {i x : Int32} {k : Nat} (hd : decode cc pc = .ok (.dastore, 1)) (hS : S[p]? = some (.inl (3, n))) (hin : vp_in i n) (hk : i.toNatClampNeg = k)
    (kk : PW l G cc own nL ret hh R CX E (pc + 1) L rest S ad (hput h p k x) cells slots) : PW l G cc own nL ret hh R CX E pc L (.double (mil x) :: .int i :: .ref (ad p) :: rest) S ad h cells slots := by
  intro p' e s m args below meth c A H locs ls F hP hD hS' hl'
  obtain ⟨⟨hx, hb, hml, hown, hts⟩, hr, hlk, htab, hA, hE, hcx⟩ := id F
  refine va_dast hx hb hE.1 hP hD hS' p 3 (gW_at hS) rfl hin hd (fun H1 locs1 g1 g2 g3 => ?_)
  have e9 : (gW ad G.2.1 S h).set p (ad p, .inl (G.2.1 3, n, .inr (.inr (.inr (.inl (vf_upd (fun j => FP.ddiv (FP.i2d (h p j)) k1000) i.toNatClampNeg (mil x))))))) = gW ad G.2.1 S (hput h p k x) := by
    rw [← gW_set (h' := hput h p k x) hS (fun q hq => hput_ne h k x hq), hput_self]
    have e8 : vf_upd (fun j => FP.ddiv (FP.i2d (h p j)) k1000) i.toNatClampNeg (mil x) = fun j => FP.ddiv (FP.i2d (upd (h p) k x j)) k1000 := by
      funext j
      rw [hk]
      by_cases hj : j = k
      · simp [vf_upd, upd, hj, mil, k1000]
      · simp [vf_upd, upd, hj]
    rw [e8]; rfl
  rw [e9] at g1 g2
  exact kk p' e s m args below meth c A H1 locs1 ls F g1 g2 g3 hl'
theorem pw_laload {p n : Nat} {i : Int32} (hd : decode cc pc = .ok (.laload, 1)) (hS : S[p]? = some (.inl (2, n))) (hin : vp_in i n)
    (kk : PW l G cc own nL ret hh R CX E (pc + 1) L (.long (h p i.toNatClampNeg).toInt64 :: rest) S ad h cells slots) : PW l G cc own nL ret hh R CX E pc L (.int i :: .ref (ad p) :: rest) S ad h cells slots := by
  intro p' e s m args below meth c A H locs ls F hP hD hS' hl'
  obtain ⟨⟨hx, hb, hml, hown, hts⟩, hr, hlk, htab, hA, hE, hcx⟩ := id F
  exact va_lald hx hb hE.1 hP p 2 (gW_at hS) rfl hin hd (kk p' e s m args below meth c A H locs ls F hP hD hS' hl')
theorem pw_daload {p n : Nat} {i : Int32} (hd : decode cc pc = .ok (.daload, 1)) (hS : S[p]? = some (.inl (3, n))) (hin : vp_in i n)
    (kk : PW l G cc own nL ret hh R CX E (pc + 1) L (.double (mil (h p i.toNatClampNeg)) :: rest) S ad h cells slots) : PW l G cc own nL ret hh R CX E pc L (.int i :: .ref (ad p) :: rest) S ad h cells slots := by
  intro p' e s m args below meth c A H locs ls F hP hD hS' hl'
  obtain ⟨⟨hx, hb, hml, hown, hts⟩, hr, hlk, htab, hA, hE, hcx⟩ := id F
  exact va_dald hx hb hE.1 hP p 3 (gW_at hS) rfl hin hd (kk p' e s m args below meth c A H locs ls F hP hD hS' hl')
/-- a static method with a table of its own -/
theorem pw_cSW {idx n : Nat} {y : MethodName} {cc1 : ByteArray} {nL1 : Nat} {ret1 : Option FieldType} {hh1 : List (Nat × Nat × Nat × Nat)} {rm : Room} {avs st0 : List Value} {v : Value} {h1 : HP}
    (hd : decode cc pc = .ok (.invokestatic idx, 3)) (hM : PMA l G y (.codeWith y cc1 nL1 ret1 hh1) rm avs S ad h (gR S ad (some v) h1) gNo) (hAO : ∀ s args meth A, CX s args meth A → gXt s)
    (hi : Cond.codeWith y cc1 nL1 ret1 hh1 ∈ gUW ∧ Cond.initialized y.cls ∈ gUW ∧ (y.cls ≠ "java/lang/invoke/MethodHandle" ∧ y.cls ≠ "java/lang/invoke/VarHandle" ∧ (parseMethodDescriptor y.desc).map (fun d => d.parameters.length) = some n)) (hv : Cond.static y ∈ gUW) (hk : Cond.methodLink own idx y ∈ gUW) (hn : avs.length = n)
    (hR : gRm rm R nL1 cells slots = true) (hst : st0 = avs.reverse ++ rest) (hW : gCat rest = true)
    (kk : PW l G cc own nL ret hh R CX E (pc + 3) L (v :: rest) S ad h1 (cells + rm.cells) (slots + rm.slots)) : PW l G cc own nL ret hh R CX E pc L st0 S ad h cells slots := by
  intro p e s m args below meth c A H locs ls F hP hD hS' hl'
  obtain ⟨⟨hx, hb, hml, hown, hts⟩, hr, hlk, htab, hA, hE, hcx⟩ := id F
  obtain ⟨r1, r2⟩ := gRm_spec hR
  obtain ⟨hi1, hi2, hi3⟩ := hi
  have hG : GoodIn gUW (va_wsS own idx y (Cond.codeWith y cc1 nL1 ret1 hh1 :: gUW)) := gUW_in (fun w hw => by
    unfold va_wsS at hw
    rcases List.mem_append.mp hw with q | q
    · rcases List.mem_cons.mp q with q | q
      · exact q ▸ hk
      · rcases List.mem_cons.mp q with q | q
        · exact q ▸ hv
        · rcases List.mem_cons.mp q with q | q
          · exact q ▸ hi2
          · cases q
    · exact (List.mem_cons.mp q).elim (fun q => q ▸ hi1) id)
  have hp : PreS s H (gPcA G ad S h H.size avs) avs := ⟨gPcA_blind, fun U hU hW => ⟨gPcU F hP hD hS' hU hW, gXt.moved hW.alike (hAO _ _ _ _ hcx)⟩⟩
  subst hst
  refine gRun (st0 := avs.reverse ++ rest) (rest := rest) (mc := rm.cells) (ms := rm.slots) (Q := gR S ad (some v) h1) (a := avs.toArray) ?_ F hD hS' hl' (X := gNo) (fun _ _ q => q.elim) (fun v' S' ad' h' q => ?_)
  · exact vx_runSX ⟨hx, hb, hml, hown, hts⟩ (hM H.size) (vx_cwSW n hts hG rfl rfl rfl hi3 r1) hp rfl hn hl'.1 rfl (by have := gCat_spec hW; show 2 * 0 + _ ≤ 8; omega) hd r2
  · obtain ⟨rfl, rfl, rfl, rfl⟩ := q
    exact kk
end PWL
theorem PMW.mk {l : Launch} {G : GC} {S : List Sh} {ad : Nat → Nat} {h : HP} {y : MethodName} {cc : ByteArray} {nL : Nat} {ret : Option FieldType} {hh : List (Nat × Nat × Nat × Nat)} {rm : Room} {avs : List Value} {Q : gPost} {X : String → HP → Prop} {L0 : List (Option Value)} (own nm : String) (mc ms : Nat)
    (hy : plainName own = true) (ho : y.cls = own) (hnm : y.name = nm) (hm : rm.cells = mc ∧ rm.slots = ms) (h1' : ∀ v ∈ avs, v.category = 1) (hn : avs.length ≤ nL) (hL : avs.map some ++ List.replicate (nL - avs.length) none = L0)
    (k : PW l G cc own nL ret hh rm (gNmA nm) (gME G S ad Q X mc ms) 0 L0 [] S ad h 0 0) :
    PMA l G y (.codeWith y cc nL ret hh) rm avs S ad h Q X := by
  subst ho; subst hnm; subst hL
  obtain ⟨rfl, rfl⟩ := hm
  intro sz
  refine vx_ofWH (cc := cc) (maxL := nL) (ret := ret) (hh := hh) hy rfl ?_
  intro p e s m args below meth c s₁ B hml hv
  obtain ⟨⟨rfl, hsz, hE, hP, hD⟩, hXt⟩ := hv
  subst hsz
  have hts : ∀ w ∈ gUW, w.before avs.toArray s = true := fun w hw => atoms_spec (ws := Cond.codeWith y cc nL ret hh :: gUW) B.pre w (List.mem_cons_of_mem _ hw)
  have htab := vx_table (x := y) B (atoms_spec (ws := Cond.codeWith y cc nL ret hh :: gUW) B.pre _ List.mem_cons_self)
  have hl := gL_entry avs (n := nL) h1' hn
  rw [lg_entry_eq]
  exact k p e s m _ below meth c (gA ad S s.heap.size) s.heap [] _ ⟨⟨B.exec, B.bytes, hml, findClass_of_methodNamed B.named, hts⟩, B.returns, B.notSynchronized, htab, fun q hq => Or.inr hq, hE, (name_of_methodNamed B.named B.method).1, hXt⟩ hP hD va_S.rf hl
theorem cl_L_13 : Cond.classLink RL 13 "java/lang/IllegalArgumentException" ∈ gUW := (gmem (tb_2 (List.mem_of_getElem? (i := 42) (by decide +kernel))) rfl)
theorem cl_L_15 : Cond.classLink RL 15 "java/lang/IllegalStateException" ∈ gUW := (gmem (tb_2 (List.mem_of_getElem? (i := 43) (by decide +kernel))) rfl)
theorem cl_L_25 : Cond.classLink RL 25 "java/lang/IndexOutOfBoundsException" ∈ gUW := (gmem (tb_3 (List.mem_of_getElem? (i := 31) (by decide +kernel))) rfl)
theorem cl_L_34 : Cond.classLink RL 34 "java/util/NoSuchElementException" ∈ gUW := (gmem (tb_3 (List.mem_of_getElem? (i := 94) (by decide +kernel))) rfl)
theorem ca_IAE : Cond.castable "java/lang/IllegalArgumentException" "java/lang/IllegalArgumentException" ∈ gNL := (gnmem (tb_2 (List.mem_of_getElem? (i := 56) (by decide +kernel))) rfl)
theorem ca_ISE : Cond.castable "java/lang/IllegalStateException" "java/lang/IllegalStateException" ∈ gNL := (gnmem (tb_2 (List.mem_of_getElem? (i := 125) (by decide +kernel))) rfl)
theorem ca_IOB : Cond.castable "java/lang/IndexOutOfBoundsException" "java/lang/IndexOutOfBoundsException" ∈ gNL := (gnmem (tb_3 (List.mem_of_getElem? (i := 45) (by decide +kernel))) rfl)
theorem ca_NSE : Cond.castable "java/util/NoSuchElementException" "java/util/NoSuchElementException" ∈ gNL := (gnmem (tb_3 (List.mem_of_getElem? (i := 102) (by decide +kernel))) rfl)
theorem wi_L_harvest : Cond.codeWith yL_harvest cL_harvest 7 (some .int) [(0, 14, 17, 13), (0, 14, 21, 15)] ∈ gUW ∧ Cond.initialized yL_harvest.cls ∈ gUW ∧ (yL_harvest.cls ≠ "java/lang/invoke/MethodHandle" ∧ yL_harvest.cls ≠ "java/lang/invoke/VarHandle" ∧ (parseMethodDescriptor yL_harvest.desc).map (fun d => d.parameters.length) = some 6) := ⟨(gmem (tb_2 (List.mem_of_getElem? (i := 41) (by decide +kernel))) rfl), (gmem (tb_1 (List.mem_of_getElem? (i := 0) (by decide +kernel))) rfl), by decide +kernel, by decide +kernel, by decide +kernel⟩
theorem ws_L_harvest : Cond.static yL_harvest ∈ gUW := (gmem (tb_2 (List.mem_of_getElem? (i := 40) (by decide +kernel))) rfl)
theorem wi_L_blend : Cond.codeWith yL_blend cL_blend 3 (some .int) [(0, 8, 11, 13), (0, 8, 14, 15)] ∈ gUW ∧ Cond.initialized yL_blend.cls ∈ gUW ∧ (yL_blend.cls ≠ "java/lang/invoke/MethodHandle" ∧ yL_blend.cls ≠ "java/lang/invoke/VarHandle" ∧ (parseMethodDescriptor yL_blend.desc).map (fun d => d.parameters.length) = some 2) := ⟨(gmem (tb_2 (List.mem_of_getElem? (i := 161) (by decide +kernel))) rfl), (gmem (tb_1 (List.mem_of_getElem? (i := 0) (by decide +kernel))) rfl), by decide +kernel, by decide +kernel, by decide +kernel⟩
theorem ws_L_blend : Cond.static yL_blend ∈ gUW := (gmem (tb_2 (List.mem_of_getElem? (i := 160) (by decide +kernel))) rfl)
theorem wi_L_spill : Cond.codeWith yL_spill cL_spill 5 (some .int) [(0, 10, 13, 25), (0, 10, 17, 13)] ∈ gUW ∧ Cond.initialized yL_spill.cls ∈ gUW ∧ (yL_spill.cls ≠ "java/lang/invoke/MethodHandle" ∧ yL_spill.cls ≠ "java/lang/invoke/VarHandle" ∧ (parseMethodDescriptor yL_spill.desc).map (fun d => d.parameters.length) = some 4) := ⟨(gmem (tb_3 (List.mem_of_getElem? (i := 30) (by decide +kernel))) rfl), (gmem (tb_1 (List.mem_of_getElem? (i := 0) (by decide +kernel))) rfl), by decide +kernel, by decide +kernel, by decide +kernel⟩
theorem ws_L_spill : Cond.static yL_spill ∈ gUW := (gmem (tb_3 (List.mem_of_getElem? (i := 29) (by decide +kernel))) rfl)
theorem wi_L_lot : Cond.codeWith yL_lot cL_lot 5 (some .int) [(0, 10, 13, 25), (0, 10, 17, 13)] ∈ gUW ∧ Cond.initialized yL_lot.cls ∈ gUW ∧ (yL_lot.cls ≠ "java/lang/invoke/MethodHandle" ∧ yL_lot.cls ≠ "java/lang/invoke/VarHandle" ∧ (parseMethodDescriptor yL_lot.desc).map (fun d => d.parameters.length) = some 4) := ⟨(gmem (tb_3 (List.mem_of_getElem? (i := 64) (by decide +kernel))) rfl), (gmem (tb_1 (List.mem_of_getElem? (i := 0) (by decide +kernel))) rfl), by decide +kernel, by decide +kernel, by decide +kernel⟩
theorem ws_L_lot : Cond.static yL_lot ∈ gUW := (gmem (tb_3 (List.mem_of_getElem? (i := 63) (by decide +kernel))) rfl)
theorem wi_L_part : Cond.codeWith yL_part cL_part 6 (some .int) [(0, 12, 15, 25), (0, 12, 19, 34), (0, 12, 23, 13)] ∈ gUW ∧ Cond.initialized yL_part.cls ∈ gUW ∧ (yL_part.cls ≠ "java/lang/invoke/MethodHandle" ∧ yL_part.cls ≠ "java/lang/invoke/VarHandle" ∧ (parseMethodDescriptor yL_part.desc).map (fun d => d.parameters.length) = some 5) := ⟨(gmem (tb_3 (List.mem_of_getElem? (i := 93) (by decide +kernel))) rfl), (gmem (tb_1 (List.mem_of_getElem? (i := 0) (by decide +kernel))) rfl), by decide +kernel, by decide +kernel, by decide +kernel⟩
theorem ws_L_part : Cond.static yL_part ∈ gUW := (gmem (tb_3 (List.mem_of_getElem? (i := 92) (by decide +kernel))) rfl)
theorem wi_L_share : Cond.codeWith yL_share cL_share 6 (some .int) [(0, 12, 15, 25), (0, 12, 19, 13)] ∈ gUW ∧ Cond.initialized yL_share.cls ∈ gUW ∧ (yL_share.cls ≠ "java/lang/invoke/MethodHandle" ∧ yL_share.cls ≠ "java/lang/invoke/VarHandle" ∧ (parseMethodDescriptor yL_share.desc).map (fun d => d.parameters.length) = some 5) := ⟨(gmem (tb_3 (List.mem_of_getElem? (i := 118) (by decide +kernel))) rfl), (gmem (tb_1 (List.mem_of_getElem? (i := 0) (by decide +kernel))) rfl), by decide +kernel, by decide +kernel, by decide +kernel⟩
theorem ws_L_share : Cond.static yL_share ∈ gUW := (gmem (tb_3 (List.mem_of_getElem? (i := 117) (by decide +kernel))) rfl)
theorem wi_L_greatest : Cond.codeWith yL_greatest cL_greatest 5 (some .int) [(0, 10, 13, 25), (0, 10, 17, 34)] ∈ gUW ∧ Cond.initialized yL_greatest.cls ∈ gUW ∧ (yL_greatest.cls ≠ "java/lang/invoke/MethodHandle" ∧ yL_greatest.cls ≠ "java/lang/invoke/VarHandle" ∧ (parseMethodDescriptor yL_greatest.desc).map (fun d => d.parameters.length) = some 4) := ⟨(gmem (tb_3 (List.mem_of_getElem? (i := 133) (by decide +kernel))) rfl), (gmem (tb_1 (List.mem_of_getElem? (i := 0) (by decide +kernel))) rfl), by decide +kernel, by decide +kernel, by decide +kernel⟩
theorem ws_L_greatest : Cond.static yL_greatest ∈ gUW := (gmem (tb_3 (List.mem_of_getElem? (i := 132) (by decide +kernel))) rfl)
theorem wi_L_meanVintage : Cond.codeWith yL_meanVintage cL_meanVintage 4 (some .int) [(0, 8, 11, 25)] ∈ gUW ∧ Cond.initialized yL_meanVintage.cls ∈ gUW ∧ (yL_meanVintage.cls ≠ "java/lang/invoke/MethodHandle" ∧ yL_meanVintage.cls ≠ "java/lang/invoke/VarHandle" ∧ (parseMethodDescriptor yL_meanVintage.desc).map (fun d => d.parameters.length) = some 3) := ⟨(gmem (tb_3 (List.mem_of_getElem? (i := 146) (by decide +kernel))) rfl), (gmem (tb_1 (List.mem_of_getElem? (i := 0) (by decide +kernel))) rfl), by decide +kernel, by decide +kernel, by decide +kernel⟩
theorem ws_L_meanVintage : Cond.static yL_meanVintage ∈ gUW := (gmem (tb_3 (List.mem_of_getElem? (i := 145) (by decide +kernel))) rfl)
theorem wi_L_setLaw : Cond.codeWith yL_setLaw cL_setLaw 5 (some .int) [(0, 10, 13, 25), (0, 10, 17, 13)] ∈ gUW ∧ Cond.initialized yL_setLaw.cls ∈ gUW ∧ (yL_setLaw.cls ≠ "java/lang/invoke/MethodHandle" ∧ yL_setLaw.cls ≠ "java/lang/invoke/VarHandle" ∧ (parseMethodDescriptor yL_setLaw.desc).map (fun d => d.parameters.length) = some 4) := ⟨(gmem (tb_3 (List.mem_of_getElem? (i := 158) (by decide +kernel))) rfl), (gmem (tb_1 (List.mem_of_getElem? (i := 0) (by decide +kernel))) rfl), by decide +kernel, by decide +kernel, by decide +kernel⟩
theorem ws_L_setLaw : Cond.static yL_setLaw ∈ gUW := (gmem (tb_3 (List.mem_of_getElem? (i := 157) (by decide +kernel))) rfl)
theorem wi_L_bottle : Cond.codeWith yL_bottle cL_bottle 9 (some .int) [(0, 18, 21, 25), (0, 18, 25, 13), (0, 18, 29, 15)] ∈ gUW ∧ Cond.initialized yL_bottle.cls ∈ gUW ∧ (yL_bottle.cls ≠ "java/lang/invoke/MethodHandle" ∧ yL_bottle.cls ≠ "java/lang/invoke/VarHandle" ∧ (parseMethodDescriptor yL_bottle.desc).map (fun d => d.parameters.length) = some 8) := ⟨(gmem (tb_3 (List.mem_of_getElem? (i := 166) (by decide +kernel))) rfl), (gmem (tb_1 (List.mem_of_getElem? (i := 0) (by decide +kernel))) rfl), by decide +kernel, by decide +kernel, by decide +kernel⟩
theorem ws_L_bottle : Cond.static yL_bottle ∈ gUW := (gmem (tb_3 (List.mem_of_getElem? (i := 165) (by decide +kernel))) rfl)
theorem wi_L_forbids : Cond.codeWith yL_forbids cL_forbids 8 (some .int) [(0, 16, 19, 25), (0, 16, 23, 13)] ∈ gUW ∧ Cond.initialized yL_forbids.cls ∈ gUW ∧ (yL_forbids.cls ≠ "java/lang/invoke/MethodHandle" ∧ yL_forbids.cls ≠ "java/lang/invoke/VarHandle" ∧ (parseMethodDescriptor yL_forbids.desc).map (fun d => d.parameters.length) = some 7) := ⟨(gmem (tb_3 (List.mem_of_getElem? (i := 205) (by decide +kernel))) rfl), (gmem (tb_1 (List.mem_of_getElem? (i := 0) (by decide +kernel))) rfl), by decide +kernel, by decide +kernel, by decide +kernel⟩
theorem ws_L_forbids : Cond.static yL_forbids ∈ gUW := (gmem (tb_3 (List.mem_of_getElem? (i := 204) (by decide +kernel))) rfl)
theorem wi_L_bottling : Cond.codeWith yL_bottling cL_bottling 5 (some .int) [(0, 10, 13, 25), (0, 10, 17, 13)] ∈ gUW ∧ Cond.initialized yL_bottling.cls ∈ gUW ∧ (yL_bottling.cls ≠ "java/lang/invoke/MethodHandle" ∧ yL_bottling.cls ≠ "java/lang/invoke/VarHandle" ∧ (parseMethodDescriptor yL_bottling.desc).map (fun d => d.parameters.length) = some 4) := ⟨(gmem (tb_3 (List.mem_of_getElem? (i := 213) (by decide +kernel))) rfl), (gmem (tb_1 (List.mem_of_getElem? (i := 0) (by decide +kernel))) rfl), by decide +kernel, by decide +kernel, by decide +kernel⟩
theorem ws_L_bottling : Cond.static yL_bottling ∈ gUW := (gmem (tb_3 (List.mem_of_getElem? (i := 212) (by decide +kernel))) rfl)
theorem wi_L_reason : Cond.codeWith yL_reason cL_reason 3 (some .int) [(0, 8, 11, 34)] ∈ gUW ∧ Cond.initialized yL_reason.cls ∈ gUW ∧ (yL_reason.cls ≠ "java/lang/invoke/MethodHandle" ∧ yL_reason.cls ≠ "java/lang/invoke/VarHandle" ∧ (parseMethodDescriptor yL_reason.desc).map (fun d => d.parameters.length) = some 2) := ⟨(gmem (tb_4 (List.mem_of_getElem? (i := 0) (by decide +kernel))) rfl), (gmem (tb_1 (List.mem_of_getElem? (i := 0) (by decide +kernel))) rfl), by decide +kernel, by decide +kernel, by decide +kernel⟩
theorem ws_L_reason : Cond.static yL_reason ∈ gUW := (gmem (tb_3 (List.mem_of_getElem? (i := 239) (by decide +kernel))) rfl)
theorem wi_L_addCustomer : Cond.codeWith yL_addCustomer cL_addCustomer 4 (some .int) [(0, 9, 12, 13), (0, 9, 15, 15)] ∈ gUW ∧ Cond.initialized yL_addCustomer.cls ∈ gUW ∧ (yL_addCustomer.cls ≠ "java/lang/invoke/MethodHandle" ∧ yL_addCustomer.cls ≠ "java/lang/invoke/VarHandle" ∧ (parseMethodDescriptor yL_addCustomer.desc).map (fun d => d.parameters.length) = some 3) := ⟨(gmem (tb_4 (List.mem_of_getElem? (i := 8) (by decide +kernel))) rfl), (gmem (tb_1 (List.mem_of_getElem? (i := 0) (by decide +kernel))) rfl), by decide +kernel, by decide +kernel, by decide +kernel⟩
theorem ws_L_addCustomer : Cond.static yL_addCustomer ∈ gUW := (gmem (tb_4 (List.mem_of_getElem? (i := 7) (by decide +kernel))) rfl)
theorem wi_L_wish : Cond.codeWith yL_wish cL_wish 6 (some .int) [(0, 12, 15, 25), (0, 12, 19, 13)] ∈ gUW ∧ Cond.initialized yL_wish.cls ∈ gUW ∧ (yL_wish.cls ≠ "java/lang/invoke/MethodHandle" ∧ yL_wish.cls ≠ "java/lang/invoke/VarHandle" ∧ (parseMethodDescriptor yL_wish.desc).map (fun d => d.parameters.length) = some 5) := ⟨(gmem (tb_4 (List.mem_of_getElem? (i := 20) (by decide +kernel))) rfl), (gmem (tb_1 (List.mem_of_getElem? (i := 0) (by decide +kernel))) rfl), by decide +kernel, by decide +kernel, by decide +kernel⟩
theorem ws_L_wish : Cond.static yL_wish ∈ gUW := (gmem (tb_4 (List.mem_of_getElem? (i := 19) (by decide +kernel))) rfl)
theorem wi_L_serve : Cond.codeWith yL_serve cL_serve 4 (some .int) [(0, 9, 12, 25)] ∈ gUW ∧ Cond.initialized yL_serve.cls ∈ gUW ∧ (yL_serve.cls ≠ "java/lang/invoke/MethodHandle" ∧ yL_serve.cls ≠ "java/lang/invoke/VarHandle" ∧ (parseMethodDescriptor yL_serve.desc).map (fun d => d.parameters.length) = some 3) := ⟨(gmem (tb_4 (List.mem_of_getElem? (i := 31) (by decide +kernel))) rfl), (gmem (tb_1 (List.mem_of_getElem? (i := 0) (by decide +kernel))) rfl), by decide +kernel, by decide +kernel, by decide +kernel⟩
theorem ws_L_serve : Cond.static yL_serve ∈ gUW := (gmem (tb_4 (List.mem_of_getElem? (i := 30) (by decide +kernel))) rfl)
theorem wi_L_giveBack : Cond.codeWith yL_giveBack cL_giveBack 6 (some .int) [(0, 12, 15, 25), (0, 12, 19, 13)] ∈ gUW ∧ Cond.initialized yL_giveBack.cls ∈ gUW ∧ (yL_giveBack.cls ≠ "java/lang/invoke/MethodHandle" ∧ yL_giveBack.cls ≠ "java/lang/invoke/VarHandle" ∧ (parseMethodDescriptor yL_giveBack.desc).map (fun d => d.parameters.length) = some 5) := ⟨(gmem (tb_4 (List.mem_of_getElem? (i := 62) (by decide +kernel))) rfl), (gmem (tb_1 (List.mem_of_getElem? (i := 0) (by decide +kernel))) rfl), by decide +kernel, by decide +kernel, by decide +kernel⟩
theorem ws_L_giveBack : Cond.static yL_giveBack ∈ gUW := (gmem (tb_4 (List.mem_of_getElem? (i := 61) (by decide +kernel))) rfl)
theorem wi_L_holds : Cond.codeWith yL_holds cL_holds 6 (some .int) [(0, 12, 15, 25), (0, 12, 19, 13)] ∈ gUW ∧ Cond.initialized yL_holds.cls ∈ gUW ∧ (yL_holds.cls ≠ "java/lang/invoke/MethodHandle" ∧ yL_holds.cls ≠ "java/lang/invoke/VarHandle" ∧ (parseMethodDescriptor yL_holds.desc).map (fun d => d.parameters.length) = some 5) := ⟨(gmem (tb_4 (List.mem_of_getElem? (i := 73) (by decide +kernel))) rfl), (gmem (tb_1 (List.mem_of_getElem? (i := 0) (by decide +kernel))) rfl), by decide +kernel, by decide +kernel, by decide +kernel⟩
theorem ws_L_holds : Cond.static yL_holds ∈ gUW := (gmem (tb_4 (List.mem_of_getElem? (i := 72) (by decide +kernel))) rfl)
theorem wi_L_listed : Cond.codeWith yL_listed cL_listed 5 (some .int) [(0, 10, 13, 25), (0, 10, 17, 34)] ∈ gUW ∧ Cond.initialized yL_listed.cls ∈ gUW ∧ (yL_listed.cls ≠ "java/lang/invoke/MethodHandle" ∧ yL_listed.cls ≠ "java/lang/invoke/VarHandle" ∧ (parseMethodDescriptor yL_listed.desc).map (fun d => d.parameters.length) = some 4) := ⟨(gmem (tb_4 (List.mem_of_getElem? (i := 84) (by decide +kernel))) rfl), (gmem (tb_1 (List.mem_of_getElem? (i := 0) (by decide +kernel))) rfl), by decide +kernel, by decide +kernel, by decide +kernel⟩
theorem ws_L_listed : Cond.static yL_listed ∈ gUW := (gmem (tb_4 (List.mem_of_getElem? (i := 83) (by decide +kernel))) rfl)
theorem wi_L_recalled : Cond.codeWith yL_recalled cL_recalled 4 (some .int) [(0, 9, 12, 25)] ∈ gUW ∧ Cond.initialized yL_recalled.cls ∈ gUW ∧ (yL_recalled.cls ≠ "java/lang/invoke/MethodHandle" ∧ yL_recalled.cls ≠ "java/lang/invoke/VarHandle" ∧ (parseMethodDescriptor yL_recalled.desc).map (fun d => d.parameters.length) = some 3) := ⟨(gmem (tb_4 (List.mem_of_getElem? (i := 91) (by decide +kernel))) rfl), (gmem (tb_1 (List.mem_of_getElem? (i := 0) (by decide +kernel))) rfl), by decide +kernel, by decide +kernel, by decide +kernel⟩
theorem ws_L_recalled : Cond.static yL_recalled ∈ gUW := (gmem (tb_4 (List.mem_of_getElem? (i := 90) (by decide +kernel))) rfl)
theorem wi_L_recalledAgain : Cond.codeWith yL_recalledAgain cL_recalledAgain 4 (some .int) [(0, 9, 12, 25)] ∈ gUW ∧ Cond.initialized yL_recalledAgain.cls ∈ gUW ∧ (yL_recalledAgain.cls ≠ "java/lang/invoke/MethodHandle" ∧ yL_recalledAgain.cls ≠ "java/lang/invoke/VarHandle" ∧ (parseMethodDescriptor yL_recalledAgain.desc).map (fun d => d.parameters.length) = some 3) := ⟨(gmem (tb_4 (List.mem_of_getElem? (i := 109) (by decide +kernel))) rfl), (gmem (tb_1 (List.mem_of_getElem? (i := 0) (by decide +kernel))) rfl), by decide +kernel, by decide +kernel, by decide +kernel⟩
theorem ws_L_recalledAgain : Cond.static yL_recalledAgain ∈ gUW := (gmem (tb_4 (List.mem_of_getElem? (i := 108) (by decide +kernel))) rfl)
theorem wi_L_bottlesOf : Cond.codeWith yL_bottlesOf cL_bottlesOf 5 (some .int) [(0, 10, 13, 25)] ∈ gUW ∧ Cond.initialized yL_bottlesOf.cls ∈ gUW ∧ (yL_bottlesOf.cls ≠ "java/lang/invoke/MethodHandle" ∧ yL_bottlesOf.cls ≠ "java/lang/invoke/VarHandle" ∧ (parseMethodDescriptor yL_bottlesOf.desc).map (fun d => d.parameters.length) = some 4) := ⟨(gmem (tb_4 (List.mem_of_getElem? (i := 122) (by decide +kernel))) rfl), (gmem (tb_1 (List.mem_of_getElem? (i := 0) (by decide +kernel))) rfl), by decide +kernel, by decide +kernel, by decide +kernel⟩
theorem ws_L_bottlesOf : Cond.static yL_bottlesOf ∈ gUW := (gmem (tb_4 (List.mem_of_getElem? (i := 121) (by decide +kernel))) rfl)
theorem wi_L_ways : Cond.codeWith yL_ways cL_ways 5 (some .int) [(0, 10, 13, 25)] ∈ gUW ∧ Cond.initialized yL_ways.cls ∈ gUW ∧ (yL_ways.cls ≠ "java/lang/invoke/MethodHandle" ∧ yL_ways.cls ≠ "java/lang/invoke/VarHandle" ∧ (parseMethodDescriptor yL_ways.desc).map (fun d => d.parameters.length) = some 4) := ⟨(gmem (tb_4 (List.mem_of_getElem? (i := 139) (by decide +kernel))) rfl), (gmem (tb_1 (List.mem_of_getElem? (i := 0) (by decide +kernel))) rfl), by decide +kernel, by decide +kernel, by decide +kernel⟩
theorem ws_L_ways : Cond.static yL_ways ∈ gUW := (gmem (tb_4 (List.mem_of_getElem? (i := 138) (by decide +kernel))) rfl)
theorem wi_L_account : Cond.codeWith yL_account cL_account 4 (some .int) [(0, 9, 12, 13)] ∈ gUW ∧ Cond.initialized yL_account.cls ∈ gUW ∧ (yL_account.cls ≠ "java/lang/invoke/MethodHandle" ∧ yL_account.cls ≠ "java/lang/invoke/VarHandle" ∧ (parseMethodDescriptor yL_account.desc).map (fun d => d.parameters.length) = some 3) := ⟨(gmem (tb_4 (List.mem_of_getElem? (i := 150) (by decide +kernel))) rfl), (gmem (tb_1 (List.mem_of_getElem? (i := 0) (by decide +kernel))) rfl), by decide +kernel, by decide +kernel, by decide +kernel⟩
theorem ws_L_account : Cond.static yL_account ∈ gUW := (gmem (tb_4 (List.mem_of_getElem? (i := 149) (by decide +kernel))) rfl)
theorem wi_L_feed : Cond.codeWith yL_feed cL_feed 4 (some .int) [(0, 9, 12, 15)] ∈ gUW ∧ Cond.initialized yL_feed.cls ∈ gUW ∧ (yL_feed.cls ≠ "java/lang/invoke/MethodHandle" ∧ yL_feed.cls ≠ "java/lang/invoke/VarHandle" ∧ (parseMethodDescriptor yL_feed.desc).map (fun d => d.parameters.length) = some 3) := ⟨(gmem (tb_4 (List.mem_of_getElem? (i := 179) (by decide +kernel))) rfl), (gmem (tb_1 (List.mem_of_getElem? (i := 0) (by decide +kernel))) rfl), by decide +kernel, by decide +kernel, by decide +kernel⟩
theorem ws_L_feed : Cond.static yL_feed ∈ gUW := (gmem (tb_4 (List.mem_of_getElem? (i := 178) (by decide +kernel))) rfl)
theorem wi_L_errorPosition : Cond.codeWith yL_errorPosition cL_errorPosition 3 (some .int) [(0, 8, 11, 34)] ∈ gUW ∧ Cond.initialized yL_errorPosition.cls ∈ gUW ∧ (yL_errorPosition.cls ≠ "java/lang/invoke/MethodHandle" ∧ yL_errorPosition.cls ≠ "java/lang/invoke/VarHandle" ∧ (parseMethodDescriptor yL_errorPosition.desc).map (fun d => d.parameters.length) = some 2) := ⟨(gmem (tb_4 (List.mem_of_getElem? (i := 191) (by decide +kernel))) rfl), (gmem (tb_1 (List.mem_of_getElem? (i := 0) (by decide +kernel))) rfl), by decide +kernel, by decide +kernel, by decide +kernel⟩
theorem ws_L_errorPosition : Cond.static yL_errorPosition ∈ gUW := (gmem (tb_4 (List.mem_of_getElem? (i := 190) (by decide +kernel))) rfl)
theorem wi_L_undo : Cond.codeWith yL_undo cL_undo 3 (some .int) [(0, 8, 11, 15)] ∈ gUW ∧ Cond.initialized yL_undo.cls ∈ gUW ∧ (yL_undo.cls ≠ "java/lang/invoke/MethodHandle" ∧ yL_undo.cls ≠ "java/lang/invoke/VarHandle" ∧ (parseMethodDescriptor yL_undo.desc).map (fun d => d.parameters.length) = some 2) := ⟨(gmem (tb_4 (List.mem_of_getElem? (i := 199) (by decide +kernel))) rfl), (gmem (tb_1 (List.mem_of_getElem? (i := 0) (by decide +kernel))) rfl), by decide +kernel, by decide +kernel, by decide +kernel⟩
theorem ws_L_undo : Cond.static yL_undo ∈ gUW := (gmem (tb_4 (List.mem_of_getElem? (i := 198) (by decide +kernel))) rfl)
theorem wi_L_restore : Cond.codeWith yL_restore cL_restore 3 (some .int) [(0, 8, 11, 15)] ∈ gUW ∧ Cond.initialized yL_restore.cls ∈ gUW ∧ (yL_restore.cls ≠ "java/lang/invoke/MethodHandle" ∧ yL_restore.cls ≠ "java/lang/invoke/VarHandle" ∧ (parseMethodDescriptor yL_restore.desc).map (fun d => d.parameters.length) = some 2) := ⟨(gmem (tb_4 (List.mem_of_getElem? (i := 211) (by decide +kernel))) rfl), (gmem (tb_1 (List.mem_of_getElem? (i := 0) (by decide +kernel))) rfl), by decide +kernel, by decide +kernel, by decide +kernel⟩
theorem ws_L_restore : Cond.static yL_restore ∈ gUW := (gmem (tb_4 (List.mem_of_getElem? (i := 210) (by decide +kernel))) rfl)
theorem wk_L_114 : Cond.methodLink RL 114 yL_harvest ∈ gUW := (gmem (tb_2 (List.mem_of_getElem? (i := 39) (by decide +kernel))) rfl)
theorem wk_L_123 : Cond.methodLink RL 123 yL_blend ∈ gUW := (gmem (tb_2 (List.mem_of_getElem? (i := 159) (by decide +kernel))) rfl)
theorem wk_L_127 : Cond.methodLink RL 127 yL_spill ∈ gUW := (gmem (tb_3 (List.mem_of_getElem? (i := 28) (by decide +kernel))) rfl)
theorem wk_L_131 : Cond.methodLink RL 131 yL_lot ∈ gUW := (gmem (tb_3 (List.mem_of_getElem? (i := 62) (by decide +kernel))) rfl)
theorem wk_L_134 : Cond.methodLink RL 134 yL_part ∈ gUW := (gmem (tb_3 (List.mem_of_getElem? (i := 91) (by decide +kernel))) rfl)
theorem wk_L_138 : Cond.methodLink RL 138 yL_share ∈ gUW := (gmem (tb_3 (List.mem_of_getElem? (i := 116) (by decide +kernel))) rfl)
theorem wk_L_141 : Cond.methodLink RL 141 yL_greatest ∈ gUW := (gmem (tb_3 (List.mem_of_getElem? (i := 131) (by decide +kernel))) rfl)
theorem wk_L_144 : Cond.methodLink RL 144 yL_meanVintage ∈ gUW := (gmem (tb_3 (List.mem_of_getElem? (i := 144) (by decide +kernel))) rfl)
theorem wk_L_148 : Cond.methodLink RL 148 yL_setLaw ∈ gUW := (gmem (tb_3 (List.mem_of_getElem? (i := 156) (by decide +kernel))) rfl)
theorem wk_L_151 : Cond.methodLink RL 151 yL_bottle ∈ gUW := (gmem (tb_3 (List.mem_of_getElem? (i := 164) (by decide +kernel))) rfl)
theorem wk_L_155 : Cond.methodLink RL 155 yL_forbids ∈ gUW := (gmem (tb_3 (List.mem_of_getElem? (i := 203) (by decide +kernel))) rfl)
theorem wk_L_159 : Cond.methodLink RL 159 yL_bottling ∈ gUW := (gmem (tb_3 (List.mem_of_getElem? (i := 211) (by decide +kernel))) rfl)
theorem wk_L_162 : Cond.methodLink RL 162 yL_reason ∈ gUW := (gmem (tb_3 (List.mem_of_getElem? (i := 238) (by decide +kernel))) rfl)
theorem wk_L_165 : Cond.methodLink RL 165 yL_addCustomer ∈ gUW := (gmem (tb_4 (List.mem_of_getElem? (i := 6) (by decide +kernel))) rfl)
theorem wk_L_169 : Cond.methodLink RL 169 yL_wish ∈ gUW := (gmem (tb_4 (List.mem_of_getElem? (i := 18) (by decide +kernel))) rfl)
theorem wk_L_172 : Cond.methodLink RL 172 yL_serve ∈ gUW := (gmem (tb_4 (List.mem_of_getElem? (i := 29) (by decide +kernel))) rfl)
theorem wk_L_175 : Cond.methodLink RL 175 yL_giveBack ∈ gUW := (gmem (tb_4 (List.mem_of_getElem? (i := 60) (by decide +kernel))) rfl)
theorem wk_L_178 : Cond.methodLink RL 178 yL_holds ∈ gUW := (gmem (tb_4 (List.mem_of_getElem? (i := 71) (by decide +kernel))) rfl)
theorem wk_L_181 : Cond.methodLink RL 181 yL_listed ∈ gUW := (gmem (tb_4 (List.mem_of_getElem? (i := 82) (by decide +kernel))) rfl)
theorem wk_L_184 : Cond.methodLink RL 184 yL_recalled ∈ gUW := (gmem (tb_4 (List.mem_of_getElem? (i := 89) (by decide +kernel))) rfl)
theorem wk_L_187 : Cond.methodLink RL 187 yL_recalledAgain ∈ gUW := (gmem (tb_4 (List.mem_of_getElem? (i := 107) (by decide +kernel))) rfl)
theorem wk_L_190 : Cond.methodLink RL 190 yL_bottlesOf ∈ gUW := (gmem (tb_4 (List.mem_of_getElem? (i := 120) (by decide +kernel))) rfl)
theorem wk_L_193 : Cond.methodLink RL 193 yL_ways ∈ gUW := (gmem (tb_4 (List.mem_of_getElem? (i := 137) (by decide +kernel))) rfl)
theorem wk_L_196 : Cond.methodLink RL 196 yL_account ∈ gUW := (gmem (tb_4 (List.mem_of_getElem? (i := 148) (by decide +kernel))) rfl)
theorem wk_L_199 : Cond.methodLink RL 199 yL_feed ∈ gUW := (gmem (tb_4 (List.mem_of_getElem? (i := 177) (by decide +kernel))) rfl)
theorem wk_L_203 : Cond.methodLink RL 203 yL_errorPosition ∈ gUW := (gmem (tb_4 (List.mem_of_getElem? (i := 189) (by decide +kernel))) rfl)
theorem wk_L_206 : Cond.methodLink RL 206 yL_undo ∈ gUW := (gmem (tb_4 (List.mem_of_getElem? (i := 197) (by decide +kernel))) rfl)
theorem wk_L_213 : Cond.methodLink RL 213 yL_restore ∈ gUW := (gmem (tb_4 (List.mem_of_getElem? (i := 209) (by decide +kernel))) rfl)
set_option maxRecDepth 100000 in
set_option maxHeartbeats 4000000 in
theorem sp_L_account_ok {l : Launch} {G : GC} {ad : Nat → Nat} {h h1 : HP} {z : Int32} {x0 : Int32} (hc : PT l G yX7_account (.code yX7_account cX7_account 2 ((Option.some FieldType.int))) { frames := 7, cells := 1, slots := 6, locals := 112 } [.ref (ad 0), .int x0] SW ad h (.inl (some (.int z))) h1) : PMA l G yL_account (.codeWith yL_account cL_account 4 (some .int) [(0, 9, 12, 13)]) { frames := 8, cells := 1, slots := 6, locals := 133 } [.ref (ad 0), .int x0, .ref (ad 263)] SW ad h (gR SW ad (some (.int 0)) (hput h1 263 0 z)) gNo := by
  refine PMW.mk (L0 := [some (.ref (ad 0)), some (.int x0), some (.ref (ad 263)), none]) RL "account" 1 6 (by decide +kernel) rfl rfl ⟨rfl, rfl⟩ (by simp [Value.category]) (Nat.le_of_ble_eq_true rfl) rfl ?_
  refine pw_aload_n dL_account_0 rfl ?_
  refine pw_iconst dL_account_1 (v := 0) (by decide) ?_
  refine pw_aload_n dL_account_2 rfl ?_
  refine pw_iload_n dL_account_3 rfl ?_
  refine pw_tV dL_account_4 hc mi_X7_account mv_X7_account ml_L_94 sh_0 rfl rfl rfl rfl rfl rfl (fun Ex q => by cases q) (fun v q => ?_)
  cases q
  refine pw_i2l dL_account_7 ?_
  refine pw_last dL_account_8 sh_263 (vpin (n := 0) (N := 1) (by decide) (by decide)) (k := 0) rfl ?_
  refine pw_goto dL_account_9 (tgt := 15) (by decide) ?_
  refine pw_iconst dL_account_15 (v := 0) (by decide) ?_
  exact pw_iretF dL_account_16 rfl rfl rfl rfl rfl

set_option maxRecDepth 100000 in
set_option maxHeartbeats 4000000 in
theorem sp_L_account_x1 {l : Launch} {G : GC} {ad : Nat → Nat} {h h1 : HP} {x0 : Int32} (hc : PT l G yX7_account (.code yX7_account cX7_account 2 ((Option.some FieldType.int))) { frames := 7, cells := 1, slots := 6, locals := 112 } [.ref (ad 0), .int x0] SW ad h (.inr "java/lang/IllegalArgumentException") h1) : PMA l G yL_account (.codeWith yL_account cL_account 4 (some .int) [(0, 9, 12, 13)]) { frames := 8, cells := 1, slots := 6, locals := 133 } [.ref (ad 0), .int x0, .ref (ad 263)] SW ad h (gR SW ad (some (.int 1)) (h1)) gNo := by
  refine PMW.mk (L0 := [some (.ref (ad 0)), some (.int x0), some (.ref (ad 263)), none]) RL "account" 1 6 (by decide +kernel) rfl rfl ⟨rfl, rfl⟩ (by simp [Value.category]) (Nat.le_of_ble_eq_true rfl) rfl ?_
  refine pw_aload_n dL_account_0 rfl ?_
  refine pw_iconst dL_account_1 (v := 0) (by decide) ?_
  refine pw_aload_n dL_account_2 rfl ?_
  refine pw_iload_n dL_account_3 rfl ?_
  refine pw_tV dL_account_4 hc mi_X7_account mv_X7_account ml_L_94 sh_0 rfl rfl rfl rfl rfl rfl (fun Ex q => ?_) (fun v q => by cases q)
  cases q
  refine px_catch (pre := []) (suf := []) (x := (0, 9, 12, 13)) rfl (fun _ _ _ _ h9 => h9.2) (fun z hz => by cases hz) (by decide) (by decide) cl_L_13 ca_IAE (fun q => ?_)
  refine pw_astore_n dL_account_12 (by decide) rfl ?_
  refine pw_iconst dL_account_13 (v := 1) (by decide) ?_
  exact pw_iretF dL_account_14 rfl rfl rfl rfl rfl

set_option maxRecDepth 100000 in
set_option maxHeartbeats 4000000 in
theorem sp_L_addCustomer_ok {l : Launch} {G : GC} {ad : Nat → Nat} {h h1 : HP} {z : Int32} {x0 : Int32} (hc : PT l G yX7_addCustomer (.code yX7_addCustomer cX7_addCustomer 2 ((Option.some FieldType.int))) { frames := 7, cells := 2, slots := 12, locals := 125 } [.ref (ad 0), .int x0] SW ad h (.inl (some (.int z))) h1) : PMA l G yL_addCustomer (.codeWith yL_addCustomer cL_addCustomer 4 (some .int) [(0, 9, 12, 13), (0, 9, 15, 15)]) { frames := 8, cells := 2, slots := 12, locals := 146 } [.ref (ad 0), .int x0, .ref (ad 263)] SW ad h (gR SW ad (some (.int 0)) (hput h1 263 0 z)) gNo := by
  refine PMW.mk (L0 := [some (.ref (ad 0)), some (.int x0), some (.ref (ad 263)), none]) RL "addCustomer" 2 12 (by decide +kernel) rfl rfl ⟨rfl, rfl⟩ (by simp [Value.category]) (Nat.le_of_ble_eq_true rfl) rfl ?_
  refine pw_aload_n dL_addCustomer_0 rfl ?_
  refine pw_iconst dL_addCustomer_1 (v := 0) (by decide) ?_
  refine pw_aload_n dL_addCustomer_2 rfl ?_
  refine pw_iload_n dL_addCustomer_3 rfl ?_
  refine pw_tV dL_addCustomer_4 hc mi_X7_addCustomer mv_X7_addCustomer ml_L_63 sh_0 rfl rfl rfl rfl rfl rfl (fun Ex q => by cases q) (fun v q => ?_)
  cases q
  refine pw_i2l dL_addCustomer_7 ?_
  refine pw_last dL_addCustomer_8 sh_263 (vpin (n := 0) (N := 1) (by decide) (by decide)) (k := 0) rfl ?_
  refine pw_goto dL_addCustomer_9 (tgt := 18) (by decide) ?_
  refine pw_iconst dL_addCustomer_18 (v := 0) (by decide) ?_
  exact pw_iretF dL_addCustomer_19 rfl rfl rfl rfl rfl

set_option maxRecDepth 100000 in
set_option maxHeartbeats 4000000 in
theorem sp_L_addCustomer_x1 {l : Launch} {G : GC} {ad : Nat → Nat} {h h1 : HP} {x0 : Int32} (hc : PT l G yX7_addCustomer (.code yX7_addCustomer cX7_addCustomer 2 ((Option.some FieldType.int))) { frames := 7, cells := 2, slots := 12, locals := 125 } [.ref (ad 0), .int x0] SW ad h (.inr "java/lang/IllegalArgumentException") h1) : PMA l G yL_addCustomer (.codeWith yL_addCustomer cL_addCustomer 4 (some .int) [(0, 9, 12, 13), (0, 9, 15, 15)]) { frames := 8, cells := 2, slots := 12, locals := 146 } [.ref (ad 0), .int x0, .ref (ad 263)] SW ad h (gR SW ad (some (.int 1)) (h1)) gNo := by
  refine PMW.mk (L0 := [some (.ref (ad 0)), some (.int x0), some (.ref (ad 263)), none]) RL "addCustomer" 2 12 (by decide +kernel) rfl rfl ⟨rfl, rfl⟩ (by simp [Value.category]) (Nat.le_of_ble_eq_true rfl) rfl ?_
  refine pw_aload_n dL_addCustomer_0 rfl ?_
  refine pw_iconst dL_addCustomer_1 (v := 0) (by decide) ?_
  refine pw_aload_n dL_addCustomer_2 rfl ?_
  refine pw_iload_n dL_addCustomer_3 rfl ?_
  refine pw_tV dL_addCustomer_4 hc mi_X7_addCustomer mv_X7_addCustomer ml_L_63 sh_0 rfl rfl rfl rfl rfl rfl (fun Ex q => ?_) (fun v q => by cases q)
  cases q
  refine px_catch (pre := []) (suf := [(0, 9, 15, 15)]) (x := (0, 9, 12, 13)) rfl (fun _ _ _ _ h9 => h9.2) (fun z hz => by cases hz) (by decide) (by decide) cl_L_13 ca_IAE (fun q => ?_)
  refine pw_astore_n dL_addCustomer_12 (by decide) rfl ?_
  refine pw_iconst dL_addCustomer_13 (v := 1) (by decide) ?_
  exact pw_iretF dL_addCustomer_14 rfl rfl rfl rfl rfl

set_option maxRecDepth 100000 in
set_option maxHeartbeats 4000000 in
theorem sp_L_addCustomer_x2 {l : Launch} {G : GC} {ad : Nat → Nat} {h h1 : HP} {x0 : Int32} (hc : PT l G yX7_addCustomer (.code yX7_addCustomer cX7_addCustomer 2 ((Option.some FieldType.int))) { frames := 7, cells := 2, slots := 12, locals := 125 } [.ref (ad 0), .int x0] SW ad h (.inr "java/lang/IllegalStateException") h1) : PMA l G yL_addCustomer (.codeWith yL_addCustomer cL_addCustomer 4 (some .int) [(0, 9, 12, 13), (0, 9, 15, 15)]) { frames := 8, cells := 2, slots := 12, locals := 146 } [.ref (ad 0), .int x0, .ref (ad 263)] SW ad h (gR SW ad (some (.int 2)) (h1)) gNo := by
  refine PMW.mk (L0 := [some (.ref (ad 0)), some (.int x0), some (.ref (ad 263)), none]) RL "addCustomer" 2 12 (by decide +kernel) rfl rfl ⟨rfl, rfl⟩ (by simp [Value.category]) (Nat.le_of_ble_eq_true rfl) rfl ?_
  refine pw_aload_n dL_addCustomer_0 rfl ?_
  refine pw_iconst dL_addCustomer_1 (v := 0) (by decide) ?_
  refine pw_aload_n dL_addCustomer_2 rfl ?_
  refine pw_iload_n dL_addCustomer_3 rfl ?_
  refine pw_tV dL_addCustomer_4 hc mi_X7_addCustomer mv_X7_addCustomer ml_L_63 sh_0 rfl rfl rfl rfl rfl rfl (fun Ex q => ?_) (fun v q => by cases q)
  cases q
  refine px_catch (pre := [(0, 9, 12, 13)]) (suf := []) (x := (0, 9, 15, 15)) rfl (fun _ _ _ _ h9 => h9.2) (fun z hz => by
    rcases List.mem_cons.mp hz with rfl | hz
    · exact ⟨by decide, _, cl_L_13, by decide⟩
    cases hz) (by decide) (by decide) cl_L_15 ca_ISE (fun q => ?_)
  refine pw_astore_n dL_addCustomer_15 (by decide) rfl ?_
  refine pw_iconst dL_addCustomer_16 (v := 2) (by decide) ?_
  exact pw_iretF dL_addCustomer_17 rfl rfl rfl rfl rfl

set_option maxRecDepth 100000 in
set_option maxHeartbeats 4000000 in
theorem sp_L_blend_ok {l : Launch} {G : GC} {ad : Nat → Nat} {h h1 : HP} {z : Int32} (hc : PT l G yX7_blend (.code yX7_blend cX7_blend 2 ((Option.some FieldType.int))) { frames := 7, cells := 2, slots := 12, locals := 141 } [.ref (ad 0)] SW ad h (.inl (some (.int z))) h1) : PMA l G yL_blend (.codeWith yL_blend cL_blend 3 (some .int) [(0, 8, 11, 13), (0, 8, 14, 15)]) { frames := 8, cells := 2, slots := 12, locals := 162 } [.ref (ad 0), .ref (ad 263)] SW ad h (gR SW ad (some (.int 0)) (hput h1 263 0 z)) gNo := by
  refine PMW.mk (L0 := [some (.ref (ad 0)), some (.ref (ad 263)), none]) RL "blend" 2 12 (by decide +kernel) rfl rfl ⟨rfl, rfl⟩ (by simp [Value.category]) (Nat.le_of_ble_eq_true rfl) rfl ?_
  refine pw_aload_n dL_blend_0 rfl ?_
  refine pw_iconst dL_blend_1 (v := 0) (by decide) ?_
  refine pw_aload_n dL_blend_2 rfl ?_
  refine pw_tV dL_blend_3 hc mi_X7_blend mv_X7_blend ml_L_17 sh_0 rfl rfl rfl rfl rfl rfl (fun Ex q => by cases q) (fun v q => ?_)
  cases q
  refine pw_i2l dL_blend_6 ?_
  refine pw_last dL_blend_7 sh_263 (vpin (n := 0) (N := 1) (by decide) (by decide)) (k := 0) rfl ?_
  refine pw_goto dL_blend_8 (tgt := 17) (by decide) ?_
  refine pw_iconst dL_blend_17 (v := 0) (by decide) ?_
  exact pw_iretF dL_blend_18 rfl rfl rfl rfl rfl

set_option maxRecDepth 100000 in
set_option maxHeartbeats 4000000 in
theorem sp_L_blend_x1 {l : Launch} {G : GC} {ad : Nat → Nat} {h h1 : HP} (hc : PT l G yX7_blend (.code yX7_blend cX7_blend 2 ((Option.some FieldType.int))) { frames := 7, cells := 2, slots := 12, locals := 141 } [.ref (ad 0)] SW ad h (.inr "java/lang/IllegalArgumentException") h1) : PMA l G yL_blend (.codeWith yL_blend cL_blend 3 (some .int) [(0, 8, 11, 13), (0, 8, 14, 15)]) { frames := 8, cells := 2, slots := 12, locals := 162 } [.ref (ad 0), .ref (ad 263)] SW ad h (gR SW ad (some (.int 1)) (h1)) gNo := by
  refine PMW.mk (L0 := [some (.ref (ad 0)), some (.ref (ad 263)), none]) RL "blend" 2 12 (by decide +kernel) rfl rfl ⟨rfl, rfl⟩ (by simp [Value.category]) (Nat.le_of_ble_eq_true rfl) rfl ?_
  refine pw_aload_n dL_blend_0 rfl ?_
  refine pw_iconst dL_blend_1 (v := 0) (by decide) ?_
  refine pw_aload_n dL_blend_2 rfl ?_
  refine pw_tV dL_blend_3 hc mi_X7_blend mv_X7_blend ml_L_17 sh_0 rfl rfl rfl rfl rfl rfl (fun Ex q => ?_) (fun v q => by cases q)
  cases q
  refine px_catch (pre := []) (suf := [(0, 8, 14, 15)]) (x := (0, 8, 11, 13)) rfl (fun _ _ _ _ h9 => h9.2) (fun z hz => by cases hz) (by decide) (by decide) cl_L_13 ca_IAE (fun q => ?_)
  refine pw_astore_n dL_blend_11 (by decide) rfl ?_
  refine pw_iconst dL_blend_12 (v := 1) (by decide) ?_
  exact pw_iretF dL_blend_13 rfl rfl rfl rfl rfl

set_option maxRecDepth 100000 in
set_option maxHeartbeats 4000000 in
theorem sp_L_blend_x2 {l : Launch} {G : GC} {ad : Nat → Nat} {h h1 : HP} (hc : PT l G yX7_blend (.code yX7_blend cX7_blend 2 ((Option.some FieldType.int))) { frames := 7, cells := 2, slots := 12, locals := 141 } [.ref (ad 0)] SW ad h (.inr "java/lang/IllegalStateException") h1) : PMA l G yL_blend (.codeWith yL_blend cL_blend 3 (some .int) [(0, 8, 11, 13), (0, 8, 14, 15)]) { frames := 8, cells := 2, slots := 12, locals := 162 } [.ref (ad 0), .ref (ad 263)] SW ad h (gR SW ad (some (.int 2)) (h1)) gNo := by
  refine PMW.mk (L0 := [some (.ref (ad 0)), some (.ref (ad 263)), none]) RL "blend" 2 12 (by decide +kernel) rfl rfl ⟨rfl, rfl⟩ (by simp [Value.category]) (Nat.le_of_ble_eq_true rfl) rfl ?_
  refine pw_aload_n dL_blend_0 rfl ?_
  refine pw_iconst dL_blend_1 (v := 0) (by decide) ?_
  refine pw_aload_n dL_blend_2 rfl ?_
  refine pw_tV dL_blend_3 hc mi_X7_blend mv_X7_blend ml_L_17 sh_0 rfl rfl rfl rfl rfl rfl (fun Ex q => ?_) (fun v q => by cases q)
  cases q
  refine px_catch (pre := [(0, 8, 11, 13)]) (suf := []) (x := (0, 8, 14, 15)) rfl (fun _ _ _ _ h9 => h9.2) (fun z hz => by
    rcases List.mem_cons.mp hz with rfl | hz
    · exact ⟨by decide, _, cl_L_13, by decide⟩
    cases hz) (by decide) (by decide) cl_L_15 ca_ISE (fun q => ?_)
  refine pw_astore_n dL_blend_14 (by decide) rfl ?_
  refine pw_iconst dL_blend_15 (v := 2) (by decide) ?_
  exact pw_iretF dL_blend_16 rfl rfl rfl rfl rfl

set_option maxRecDepth 100000 in
set_option maxHeartbeats 4000000 in
theorem sp_L_bottle_ok {l : Launch} {G : GC} {ad : Nat → Nat} {h h1 : HP} {z : Int32} {x0 x1 x2 x3 x4 x5 : Int32} (hc : PT l G yX7_bottle (.code yX7_bottle cX7_bottle 8 ((Option.some FieldType.int))) { frames := 8, cells := 8, slots := 48, locals := 147 } [.ref (ad 0), .int x0, .int x1, .int x2, .int x3, .int x4, .int x5] SW ad h (.inl (some (.int z))) h1) : PMA l G yL_bottle (.codeWith yL_bottle cL_bottle 9 (some .int) [(0, 18, 21, 25), (0, 18, 25, 13), (0, 18, 29, 15)]) { frames := 9, cells := 8, slots := 48, locals := 174 } [.ref (ad 0), .int x0, .int x1, .int x2, .int x3, .int x4, .int x5, .ref (ad 263)] SW ad h (gR SW ad (some (.int 0)) (hput h1 263 0 z)) gNo := by
  refine PMW.mk (L0 := [some (.ref (ad 0)), some (.int x0), some (.int x1), some (.int x2), some (.int x3), some (.int x4), some (.int x5), some (.ref (ad 263)), none]) RL "bottle" 8 48 (by decide +kernel) rfl rfl ⟨rfl, rfl⟩ (by simp [Value.category]) (Nat.le_of_ble_eq_true rfl) rfl ?_
  refine pw_aload dL_bottle_0 rfl ?_
  refine pw_iconst dL_bottle_2 (v := 0) (by decide) ?_
  refine pw_aload_n dL_bottle_3 rfl ?_
  refine pw_iload_n dL_bottle_4 rfl ?_
  refine pw_iload_n dL_bottle_5 rfl ?_
  refine pw_iload_n dL_bottle_6 rfl ?_
  refine pw_iload dL_bottle_7 rfl ?_
  refine pw_iload dL_bottle_9 rfl ?_
  refine pw_iload dL_bottle_11 rfl ?_
  refine pw_tV dL_bottle_13 hc mi_X7_bottle mv_X7_bottle ml_L_49 sh_0 rfl rfl rfl rfl rfl rfl (fun Ex q => by cases q) (fun v q => ?_)
  cases q
  refine pw_i2l dL_bottle_16 ?_
  refine pw_last dL_bottle_17 sh_263 (vpin (n := 0) (N := 1) (by decide) (by decide)) (k := 0) rfl ?_
  refine pw_goto dL_bottle_18 (tgt := 33) (by decide) ?_
  refine pw_iconst dL_bottle_33 (v := 0) (by decide) ?_
  exact pw_iretF dL_bottle_34 rfl rfl rfl rfl rfl

set_option maxRecDepth 100000 in
set_option maxHeartbeats 4000000 in
theorem sp_L_bottle_x1 {l : Launch} {G : GC} {ad : Nat → Nat} {h h1 : HP} {x0 x1 x2 x3 x4 x5 : Int32} (hc : PT l G yX7_bottle (.code yX7_bottle cX7_bottle 8 ((Option.some FieldType.int))) { frames := 8, cells := 8, slots := 48, locals := 147 } [.ref (ad 0), .int x0, .int x1, .int x2, .int x3, .int x4, .int x5] SW ad h (.inr "java/lang/IndexOutOfBoundsException") h1) : PMA l G yL_bottle (.codeWith yL_bottle cL_bottle 9 (some .int) [(0, 18, 21, 25), (0, 18, 25, 13), (0, 18, 29, 15)]) { frames := 9, cells := 8, slots := 48, locals := 174 } [.ref (ad 0), .int x0, .int x1, .int x2, .int x3, .int x4, .int x5, .ref (ad 263)] SW ad h (gR SW ad (some (.int 1)) (h1)) gNo := by
  refine PMW.mk (L0 := [some (.ref (ad 0)), some (.int x0), some (.int x1), some (.int x2), some (.int x3), some (.int x4), some (.int x5), some (.ref (ad 263)), none]) RL "bottle" 8 48 (by decide +kernel) rfl rfl ⟨rfl, rfl⟩ (by simp [Value.category]) (Nat.le_of_ble_eq_true rfl) rfl ?_
  refine pw_aload dL_bottle_0 rfl ?_
  refine pw_iconst dL_bottle_2 (v := 0) (by decide) ?_
  refine pw_aload_n dL_bottle_3 rfl ?_
  refine pw_iload_n dL_bottle_4 rfl ?_
  refine pw_iload_n dL_bottle_5 rfl ?_
  refine pw_iload_n dL_bottle_6 rfl ?_
  refine pw_iload dL_bottle_7 rfl ?_
  refine pw_iload dL_bottle_9 rfl ?_
  refine pw_iload dL_bottle_11 rfl ?_
  refine pw_tV dL_bottle_13 hc mi_X7_bottle mv_X7_bottle ml_L_49 sh_0 rfl rfl rfl rfl rfl rfl (fun Ex q => ?_) (fun v q => by cases q)
  cases q
  refine px_catch (pre := []) (suf := [(0, 18, 25, 13), (0, 18, 29, 15)]) (x := (0, 18, 21, 25)) rfl (fun _ _ _ _ h9 => h9.2) (fun z hz => by cases hz) (by decide) (by decide) cl_L_25 ca_IOB (fun q => ?_)
  refine pw_astore dL_bottle_21 (by decide) rfl ?_
  refine pw_iconst dL_bottle_23 (v := 1) (by decide) ?_
  exact pw_iretF dL_bottle_24 rfl rfl rfl rfl rfl

set_option maxRecDepth 100000 in
set_option maxHeartbeats 4000000 in
theorem sp_L_bottle_x2 {l : Launch} {G : GC} {ad : Nat → Nat} {h h1 : HP} {x0 x1 x2 x3 x4 x5 : Int32} (hc : PT l G yX7_bottle (.code yX7_bottle cX7_bottle 8 ((Option.some FieldType.int))) { frames := 8, cells := 8, slots := 48, locals := 147 } [.ref (ad 0), .int x0, .int x1, .int x2, .int x3, .int x4, .int x5] SW ad h (.inr "java/lang/IllegalArgumentException") h1) : PMA l G yL_bottle (.codeWith yL_bottle cL_bottle 9 (some .int) [(0, 18, 21, 25), (0, 18, 25, 13), (0, 18, 29, 15)]) { frames := 9, cells := 8, slots := 48, locals := 174 } [.ref (ad 0), .int x0, .int x1, .int x2, .int x3, .int x4, .int x5, .ref (ad 263)] SW ad h (gR SW ad (some (.int 2)) (h1)) gNo := by
  refine PMW.mk (L0 := [some (.ref (ad 0)), some (.int x0), some (.int x1), some (.int x2), some (.int x3), some (.int x4), some (.int x5), some (.ref (ad 263)), none]) RL "bottle" 8 48 (by decide +kernel) rfl rfl ⟨rfl, rfl⟩ (by simp [Value.category]) (Nat.le_of_ble_eq_true rfl) rfl ?_
  refine pw_aload dL_bottle_0 rfl ?_
  refine pw_iconst dL_bottle_2 (v := 0) (by decide) ?_
  refine pw_aload_n dL_bottle_3 rfl ?_
  refine pw_iload_n dL_bottle_4 rfl ?_
  refine pw_iload_n dL_bottle_5 rfl ?_
  refine pw_iload_n dL_bottle_6 rfl ?_
  refine pw_iload dL_bottle_7 rfl ?_
  refine pw_iload dL_bottle_9 rfl ?_
  refine pw_iload dL_bottle_11 rfl ?_
  refine pw_tV dL_bottle_13 hc mi_X7_bottle mv_X7_bottle ml_L_49 sh_0 rfl rfl rfl rfl rfl rfl (fun Ex q => ?_) (fun v q => by cases q)
  cases q
  refine px_catch (pre := [(0, 18, 21, 25)]) (suf := [(0, 18, 29, 15)]) (x := (0, 18, 25, 13)) rfl (fun _ _ _ _ h9 => h9.2) (fun z hz => by
    rcases List.mem_cons.mp hz with rfl | hz
    · exact ⟨by decide, _, cl_L_25, by decide⟩
    cases hz) (by decide) (by decide) cl_L_13 ca_IAE (fun q => ?_)
  refine pw_astore dL_bottle_25 (by decide) rfl ?_
  refine pw_iconst dL_bottle_27 (v := 2) (by decide) ?_
  exact pw_iretF dL_bottle_28 rfl rfl rfl rfl rfl

set_option maxRecDepth 100000 in
set_option maxHeartbeats 4000000 in
theorem sp_L_bottle_x3 {l : Launch} {G : GC} {ad : Nat → Nat} {h h1 : HP} {x0 x1 x2 x3 x4 x5 : Int32} (hc : PT l G yX7_bottle (.code yX7_bottle cX7_bottle 8 ((Option.some FieldType.int))) { frames := 8, cells := 8, slots := 48, locals := 147 } [.ref (ad 0), .int x0, .int x1, .int x2, .int x3, .int x4, .int x5] SW ad h (.inr "java/lang/IllegalStateException") h1) : PMA l G yL_bottle (.codeWith yL_bottle cL_bottle 9 (some .int) [(0, 18, 21, 25), (0, 18, 25, 13), (0, 18, 29, 15)]) { frames := 9, cells := 8, slots := 48, locals := 174 } [.ref (ad 0), .int x0, .int x1, .int x2, .int x3, .int x4, .int x5, .ref (ad 263)] SW ad h (gR SW ad (some (.int 3)) (h1)) gNo := by
  refine PMW.mk (L0 := [some (.ref (ad 0)), some (.int x0), some (.int x1), some (.int x2), some (.int x3), some (.int x4), some (.int x5), some (.ref (ad 263)), none]) RL "bottle" 8 48 (by decide +kernel) rfl rfl ⟨rfl, rfl⟩ (by simp [Value.category]) (Nat.le_of_ble_eq_true rfl) rfl ?_
  refine pw_aload dL_bottle_0 rfl ?_
  refine pw_iconst dL_bottle_2 (v := 0) (by decide) ?_
  refine pw_aload_n dL_bottle_3 rfl ?_
  refine pw_iload_n dL_bottle_4 rfl ?_
  refine pw_iload_n dL_bottle_5 rfl ?_
  refine pw_iload_n dL_bottle_6 rfl ?_
  refine pw_iload dL_bottle_7 rfl ?_
  refine pw_iload dL_bottle_9 rfl ?_
  refine pw_iload dL_bottle_11 rfl ?_
  refine pw_tV dL_bottle_13 hc mi_X7_bottle mv_X7_bottle ml_L_49 sh_0 rfl rfl rfl rfl rfl rfl (fun Ex q => ?_) (fun v q => by cases q)
  cases q
  refine px_catch (pre := [(0, 18, 21, 25), (0, 18, 25, 13)]) (suf := []) (x := (0, 18, 29, 15)) rfl (fun _ _ _ _ h9 => h9.2) (fun z hz => by
    rcases List.mem_cons.mp hz with rfl | hz
    · exact ⟨by decide, _, cl_L_25, by decide⟩
    rcases List.mem_cons.mp hz with rfl | hz
    · exact ⟨by decide, _, cl_L_13, by decide⟩
    cases hz) (by decide) (by decide) cl_L_15 ca_ISE (fun q => ?_)
  refine pw_astore dL_bottle_29 (by decide) rfl ?_
  refine pw_iconst dL_bottle_31 (v := 3) (by decide) ?_
  exact pw_iretF dL_bottle_32 rfl rfl rfl rfl rfl

set_option maxRecDepth 100000 in
set_option maxHeartbeats 4000000 in
theorem sp_L_bottlesOf_ok {l : Launch} {G : GC} {ad : Nat → Nat} {h h1 : HP} {z : Int32} {x0 x1 : Int32} (hc : PT l G yX7_bottlesOf (.code yX7_bottlesOf cX7_bottlesOf 4 ((Option.some FieldType.int))) { frames := 8, cells := 2, slots := 12, locals := 135 } [.ref (ad 0), .int x0, .int x1] SW ad h (.inl (some (.int z))) h1) : PMA l G yL_bottlesOf (.codeWith yL_bottlesOf cL_bottlesOf 5 (some .int) [(0, 10, 13, 25)]) { frames := 9, cells := 2, slots := 12, locals := 158 } [.ref (ad 0), .int x0, .int x1, .ref (ad 263)] SW ad h (gR SW ad (some (.int 0)) (hput h1 263 0 z)) gNo := by
  refine PMW.mk (L0 := [some (.ref (ad 0)), some (.int x0), some (.int x1), some (.ref (ad 263)), none]) RL "bottlesOf" 2 12 (by decide +kernel) rfl rfl ⟨rfl, rfl⟩ (by simp [Value.category]) (Nat.le_of_ble_eq_true rfl) rfl ?_
  refine pw_aload_n dL_bottlesOf_0 rfl ?_
  refine pw_iconst dL_bottlesOf_1 (v := 0) (by decide) ?_
  refine pw_aload_n dL_bottlesOf_2 rfl ?_
  refine pw_iload_n dL_bottlesOf_3 rfl ?_
  refine pw_iload_n dL_bottlesOf_4 rfl ?_
  refine pw_tV dL_bottlesOf_5 hc mi_X7_bottlesOf mv_X7_bottlesOf ml_L_88 sh_0 rfl rfl rfl rfl rfl rfl (fun Ex q => by cases q) (fun v q => ?_)
  cases q
  refine pw_i2l dL_bottlesOf_8 ?_
  refine pw_last dL_bottlesOf_9 sh_263 (vpin (n := 0) (N := 1) (by decide) (by decide)) (k := 0) rfl ?_
  refine pw_goto dL_bottlesOf_10 (tgt := 17) (by decide) ?_
  refine pw_iconst dL_bottlesOf_17 (v := 0) (by decide) ?_
  exact pw_iretF dL_bottlesOf_18 rfl rfl rfl rfl rfl

set_option maxRecDepth 100000 in
set_option maxHeartbeats 4000000 in
theorem sp_L_bottlesOf_x1 {l : Launch} {G : GC} {ad : Nat → Nat} {h h1 : HP} {x0 x1 : Int32} (hc : PT l G yX7_bottlesOf (.code yX7_bottlesOf cX7_bottlesOf 4 ((Option.some FieldType.int))) { frames := 8, cells := 2, slots := 12, locals := 135 } [.ref (ad 0), .int x0, .int x1] SW ad h (.inr "java/lang/IndexOutOfBoundsException") h1) : PMA l G yL_bottlesOf (.codeWith yL_bottlesOf cL_bottlesOf 5 (some .int) [(0, 10, 13, 25)]) { frames := 9, cells := 2, slots := 12, locals := 158 } [.ref (ad 0), .int x0, .int x1, .ref (ad 263)] SW ad h (gR SW ad (some (.int 1)) (h1)) gNo := by
  refine PMW.mk (L0 := [some (.ref (ad 0)), some (.int x0), some (.int x1), some (.ref (ad 263)), none]) RL "bottlesOf" 2 12 (by decide +kernel) rfl rfl ⟨rfl, rfl⟩ (by simp [Value.category]) (Nat.le_of_ble_eq_true rfl) rfl ?_
  refine pw_aload_n dL_bottlesOf_0 rfl ?_
  refine pw_iconst dL_bottlesOf_1 (v := 0) (by decide) ?_
  refine pw_aload_n dL_bottlesOf_2 rfl ?_
  refine pw_iload_n dL_bottlesOf_3 rfl ?_
  refine pw_iload_n dL_bottlesOf_4 rfl ?_
  refine pw_tV dL_bottlesOf_5 hc mi_X7_bottlesOf mv_X7_bottlesOf ml_L_88 sh_0 rfl rfl rfl rfl rfl rfl (fun Ex q => ?_) (fun v q => by cases q)
  cases q
  refine px_catch (pre := []) (suf := []) (x := (0, 10, 13, 25)) rfl (fun _ _ _ _ h9 => h9.2) (fun z hz => by cases hz) (by decide) (by decide) cl_L_25 ca_IOB (fun q => ?_)
  refine pw_astore dL_bottlesOf_13 (by decide) rfl ?_
  refine pw_iconst dL_bottlesOf_15 (v := 1) (by decide) ?_
  exact pw_iretF dL_bottlesOf_16 rfl rfl rfl rfl rfl

set_option maxRecDepth 100000 in
set_option maxHeartbeats 4000000 in
theorem sp_L_bottling_ok {l : Launch} {G : GC} {ad : Nat → Nat} {h h1 : HP} {z : Int32} {x0 x1 : Int32} (hc : PT l G yX7_bottling (.code yX7_bottling cX7_bottling 3 ((Option.some FieldType.int))) { frames := 7, cells := 2, slots := 12, locals := 142 } [.ref (ad 0), .int x0, .int x1] SW ad h (.inl (some (.int z))) h1) : PMA l G yL_bottling (.codeWith yL_bottling cL_bottling 5 (some .int) [(0, 10, 13, 25), (0, 10, 17, 13)]) { frames := 8, cells := 2, slots := 12, locals := 164 } [.ref (ad 0), .int x0, .int x1, .ref (ad 263)] SW ad h (gR SW ad (some (.int 0)) (hput h1 263 0 z)) gNo := by
  refine PMW.mk (L0 := [some (.ref (ad 0)), some (.int x0), some (.int x1), some (.ref (ad 263)), none]) RL "bottling" 2 12 (by decide +kernel) rfl rfl ⟨rfl, rfl⟩ (by simp [Value.category]) (Nat.le_of_ble_eq_true rfl) rfl ?_
  refine pw_aload_n dL_bottling_0 rfl ?_
  refine pw_iconst dL_bottling_1 (v := 0) (by decide) ?_
  refine pw_aload_n dL_bottling_2 rfl ?_
  refine pw_iload_n dL_bottling_3 rfl ?_
  refine pw_iload_n dL_bottling_4 rfl ?_
  refine pw_tV dL_bottling_5 hc mi_X7_bottling mv_X7_bottling ml_L_57 sh_0 rfl rfl rfl rfl rfl rfl (fun Ex q => by cases q) (fun v q => ?_)
  cases q
  refine pw_i2l dL_bottling_8 ?_
  refine pw_last dL_bottling_9 sh_263 (vpin (n := 0) (N := 1) (by decide) (by decide)) (k := 0) rfl ?_
  refine pw_goto dL_bottling_10 (tgt := 21) (by decide) ?_
  refine pw_iconst dL_bottling_21 (v := 0) (by decide) ?_
  exact pw_iretF dL_bottling_22 rfl rfl rfl rfl rfl

set_option maxRecDepth 100000 in
set_option maxHeartbeats 4000000 in
theorem sp_L_bottling_x1 {l : Launch} {G : GC} {ad : Nat → Nat} {h h1 : HP} {x0 x1 : Int32} (hc : PT l G yX7_bottling (.code yX7_bottling cX7_bottling 3 ((Option.some FieldType.int))) { frames := 7, cells := 2, slots := 12, locals := 142 } [.ref (ad 0), .int x0, .int x1] SW ad h (.inr "java/lang/IndexOutOfBoundsException") h1) : PMA l G yL_bottling (.codeWith yL_bottling cL_bottling 5 (some .int) [(0, 10, 13, 25), (0, 10, 17, 13)]) { frames := 8, cells := 2, slots := 12, locals := 164 } [.ref (ad 0), .int x0, .int x1, .ref (ad 263)] SW ad h (gR SW ad (some (.int 1)) (h1)) gNo := by
  refine PMW.mk (L0 := [some (.ref (ad 0)), some (.int x0), some (.int x1), some (.ref (ad 263)), none]) RL "bottling" 2 12 (by decide +kernel) rfl rfl ⟨rfl, rfl⟩ (by simp [Value.category]) (Nat.le_of_ble_eq_true rfl) rfl ?_
  refine pw_aload_n dL_bottling_0 rfl ?_
  refine pw_iconst dL_bottling_1 (v := 0) (by decide) ?_
  refine pw_aload_n dL_bottling_2 rfl ?_
  refine pw_iload_n dL_bottling_3 rfl ?_
  refine pw_iload_n dL_bottling_4 rfl ?_
  refine pw_tV dL_bottling_5 hc mi_X7_bottling mv_X7_bottling ml_L_57 sh_0 rfl rfl rfl rfl rfl rfl (fun Ex q => ?_) (fun v q => by cases q)
  cases q
  refine px_catch (pre := []) (suf := [(0, 10, 17, 13)]) (x := (0, 10, 13, 25)) rfl (fun _ _ _ _ h9 => h9.2) (fun z hz => by cases hz) (by decide) (by decide) cl_L_25 ca_IOB (fun q => ?_)
  refine pw_astore dL_bottling_13 (by decide) rfl ?_
  refine pw_iconst dL_bottling_15 (v := 1) (by decide) ?_
  exact pw_iretF dL_bottling_16 rfl rfl rfl rfl rfl

set_option maxRecDepth 100000 in
set_option maxHeartbeats 4000000 in
theorem sp_L_bottling_x2 {l : Launch} {G : GC} {ad : Nat → Nat} {h h1 : HP} {x0 x1 : Int32} (hc : PT l G yX7_bottling (.code yX7_bottling cX7_bottling 3 ((Option.some FieldType.int))) { frames := 7, cells := 2, slots := 12, locals := 142 } [.ref (ad 0), .int x0, .int x1] SW ad h (.inr "java/lang/IllegalArgumentException") h1) : PMA l G yL_bottling (.codeWith yL_bottling cL_bottling 5 (some .int) [(0, 10, 13, 25), (0, 10, 17, 13)]) { frames := 8, cells := 2, slots := 12, locals := 164 } [.ref (ad 0), .int x0, .int x1, .ref (ad 263)] SW ad h (gR SW ad (some (.int 2)) (h1)) gNo := by
  refine PMW.mk (L0 := [some (.ref (ad 0)), some (.int x0), some (.int x1), some (.ref (ad 263)), none]) RL "bottling" 2 12 (by decide +kernel) rfl rfl ⟨rfl, rfl⟩ (by simp [Value.category]) (Nat.le_of_ble_eq_true rfl) rfl ?_
  refine pw_aload_n dL_bottling_0 rfl ?_
  refine pw_iconst dL_bottling_1 (v := 0) (by decide) ?_
  refine pw_aload_n dL_bottling_2 rfl ?_
  refine pw_iload_n dL_bottling_3 rfl ?_
  refine pw_iload_n dL_bottling_4 rfl ?_
  refine pw_tV dL_bottling_5 hc mi_X7_bottling mv_X7_bottling ml_L_57 sh_0 rfl rfl rfl rfl rfl rfl (fun Ex q => ?_) (fun v q => by cases q)
  cases q
  refine px_catch (pre := [(0, 10, 13, 25)]) (suf := []) (x := (0, 10, 17, 13)) rfl (fun _ _ _ _ h9 => h9.2) (fun z hz => by
    rcases List.mem_cons.mp hz with rfl | hz
    · exact ⟨by decide, _, cl_L_25, by decide⟩
    cases hz) (by decide) (by decide) cl_L_13 ca_IAE (fun q => ?_)
  refine pw_astore dL_bottling_17 (by decide) rfl ?_
  refine pw_iconst dL_bottling_19 (v := 2) (by decide) ?_
  exact pw_iretF dL_bottling_20 rfl rfl rfl rfl rfl

set_option maxRecDepth 100000 in
set_option maxHeartbeats 4000000 in
theorem sp_L_errorPosition_ok {l : Launch} {G : GC} {ad : Nat → Nat} {h h1 : HP} {z : Int32} (hc : PT l G yX7_errorPosition (.code yX7_errorPosition cX7_errorPosition 1 ((Option.some FieldType.int))) { frames := 6, cells := 1, slots := 6, locals := 90 } [.ref (ad 0)] SW ad h (.inl (some (.int z))) h1) : PMA l G yL_errorPosition (.codeWith yL_errorPosition cL_errorPosition 3 (some .int) [(0, 8, 11, 34)]) { frames := 7, cells := 1, slots := 6, locals := 110 } [.ref (ad 0), .ref (ad 263)] SW ad h (gR SW ad (some (.int 0)) (hput h1 263 0 z)) gNo := by
  refine PMW.mk (L0 := [some (.ref (ad 0)), some (.ref (ad 263)), none]) RL "errorPosition" 1 6 (by decide +kernel) rfl rfl ⟨rfl, rfl⟩ (by simp [Value.category]) (Nat.le_of_ble_eq_true rfl) rfl ?_
  refine pw_aload_n dL_errorPosition_0 rfl ?_
  refine pw_iconst dL_errorPosition_1 (v := 0) (by decide) ?_
  refine pw_aload_n dL_errorPosition_2 rfl ?_
  refine pw_tV dL_errorPosition_3 hc mi_X7_errorPosition mv_X7_errorPosition ml_L_101 sh_0 rfl rfl rfl rfl rfl rfl (fun Ex q => by cases q) (fun v q => ?_)
  cases q
  refine pw_i2l dL_errorPosition_6 ?_
  refine pw_last dL_errorPosition_7 sh_263 (vpin (n := 0) (N := 1) (by decide) (by decide)) (k := 0) rfl ?_
  refine pw_goto dL_errorPosition_8 (tgt := 14) (by decide) ?_
  refine pw_iconst dL_errorPosition_14 (v := 0) (by decide) ?_
  exact pw_iretF dL_errorPosition_15 rfl rfl rfl rfl rfl

set_option maxRecDepth 100000 in
set_option maxHeartbeats 4000000 in
theorem sp_L_errorPosition_x1 {l : Launch} {G : GC} {ad : Nat → Nat} {h h1 : HP} (hc : PT l G yX7_errorPosition (.code yX7_errorPosition cX7_errorPosition 1 ((Option.some FieldType.int))) { frames := 6, cells := 1, slots := 6, locals := 90 } [.ref (ad 0)] SW ad h (.inr "java/util/NoSuchElementException") h1) : PMA l G yL_errorPosition (.codeWith yL_errorPosition cL_errorPosition 3 (some .int) [(0, 8, 11, 34)]) { frames := 7, cells := 1, slots := 6, locals := 110 } [.ref (ad 0), .ref (ad 263)] SW ad h (gR SW ad (some (.int 1)) (h1)) gNo := by
  refine PMW.mk (L0 := [some (.ref (ad 0)), some (.ref (ad 263)), none]) RL "errorPosition" 1 6 (by decide +kernel) rfl rfl ⟨rfl, rfl⟩ (by simp [Value.category]) (Nat.le_of_ble_eq_true rfl) rfl ?_
  refine pw_aload_n dL_errorPosition_0 rfl ?_
  refine pw_iconst dL_errorPosition_1 (v := 0) (by decide) ?_
  refine pw_aload_n dL_errorPosition_2 rfl ?_
  refine pw_tV dL_errorPosition_3 hc mi_X7_errorPosition mv_X7_errorPosition ml_L_101 sh_0 rfl rfl rfl rfl rfl rfl (fun Ex q => ?_) (fun v q => by cases q)
  cases q
  refine px_catch (pre := []) (suf := []) (x := (0, 8, 11, 34)) rfl (fun _ _ _ _ h9 => h9.2) (fun z hz => by cases hz) (by decide) (by decide) cl_L_34 ca_NSE (fun q => ?_)
  refine pw_astore_n dL_errorPosition_11 (by decide) rfl ?_
  refine pw_iconst dL_errorPosition_12 (v := 1) (by decide) ?_
  exact pw_iretF dL_errorPosition_13 rfl rfl rfl rfl rfl

set_option maxRecDepth 100000 in
set_option maxHeartbeats 4000000 in
theorem sp_L_feed_ok {l : Launch} {G : GC} {ad : Nat → Nat} {h h1 : HP} {z : Int32} {x0 : Int32} (hc : PT l G yX7_feed (.code yX7_feed cX7_feed 2 ((Option.some FieldType.int))) { frames := 6, cells := 1, slots := 6, locals := 90 } [.ref (ad 0), .int x0] SW ad h (.inl (some (.int z))) h1) : PMA l G yL_feed (.codeWith yL_feed cL_feed 4 (some .int) [(0, 9, 12, 15)]) { frames := 7, cells := 1, slots := 6, locals := 111 } [.ref (ad 0), .int x0, .ref (ad 263)] SW ad h (gR SW ad (some (.int 0)) (hput h1 263 0 z)) gNo := by
  refine PMW.mk (L0 := [some (.ref (ad 0)), some (.int x0), some (.ref (ad 263)), none]) RL "feed" 1 6 (by decide +kernel) rfl rfl ⟨rfl, rfl⟩ (by simp [Value.category]) (Nat.le_of_ble_eq_true rfl) rfl ?_
  refine pw_aload_n dL_feed_0 rfl ?_
  refine pw_iconst dL_feed_1 (v := 0) (by decide) ?_
  refine pw_aload_n dL_feed_2 rfl ?_
  refine pw_iload_n dL_feed_3 rfl ?_
  refine pw_tV dL_feed_4 hc mi_X7_feed mv_X7_feed ml_L_97 sh_0 rfl rfl rfl rfl rfl rfl (fun Ex q => by cases q) (fun v q => ?_)
  cases q
  refine pw_i2l dL_feed_7 ?_
  refine pw_last dL_feed_8 sh_263 (vpin (n := 0) (N := 1) (by decide) (by decide)) (k := 0) rfl ?_
  refine pw_goto dL_feed_9 (tgt := 15) (by decide) ?_
  refine pw_iconst dL_feed_15 (v := 0) (by decide) ?_
  exact pw_iretF dL_feed_16 rfl rfl rfl rfl rfl

set_option maxRecDepth 100000 in
set_option maxHeartbeats 4000000 in
theorem sp_L_feed_x1 {l : Launch} {G : GC} {ad : Nat → Nat} {h h1 : HP} {x0 : Int32} (hc : PT l G yX7_feed (.code yX7_feed cX7_feed 2 ((Option.some FieldType.int))) { frames := 6, cells := 1, slots := 6, locals := 90 } [.ref (ad 0), .int x0] SW ad h (.inr "java/lang/IllegalStateException") h1) : PMA l G yL_feed (.codeWith yL_feed cL_feed 4 (some .int) [(0, 9, 12, 15)]) { frames := 7, cells := 1, slots := 6, locals := 111 } [.ref (ad 0), .int x0, .ref (ad 263)] SW ad h (gR SW ad (some (.int 1)) (h1)) gNo := by
  refine PMW.mk (L0 := [some (.ref (ad 0)), some (.int x0), some (.ref (ad 263)), none]) RL "feed" 1 6 (by decide +kernel) rfl rfl ⟨rfl, rfl⟩ (by simp [Value.category]) (Nat.le_of_ble_eq_true rfl) rfl ?_
  refine pw_aload_n dL_feed_0 rfl ?_
  refine pw_iconst dL_feed_1 (v := 0) (by decide) ?_
  refine pw_aload_n dL_feed_2 rfl ?_
  refine pw_iload_n dL_feed_3 rfl ?_
  refine pw_tV dL_feed_4 hc mi_X7_feed mv_X7_feed ml_L_97 sh_0 rfl rfl rfl rfl rfl rfl (fun Ex q => ?_) (fun v q => by cases q)
  cases q
  refine px_catch (pre := []) (suf := []) (x := (0, 9, 12, 15)) rfl (fun _ _ _ _ h9 => h9.2) (fun z hz => by cases hz) (by decide) (by decide) cl_L_15 ca_ISE (fun q => ?_)
  refine pw_astore_n dL_feed_12 (by decide) rfl ?_
  refine pw_iconst dL_feed_13 (v := 1) (by decide) ?_
  exact pw_iretF dL_feed_14 rfl rfl rfl rfl rfl

set_option maxRecDepth 100000 in
set_option maxHeartbeats 4000000 in
theorem sp_L_forbids_ok {l : Launch} {G : GC} {ad : Nat → Nat} {h h1 : HP} {z : Int32} {x0 x1 x2 x3 x4 : Int32} (hc : PT l G yX7_forbids (.code yX7_forbids cX7_forbids 6 ((Option.some FieldType.int))) { frames := 8, cells := 6, slots := 36, locals := 135 } [.ref (ad 0), .int x0, .int x1, .int x2, .int x3, .int x4] SW ad h (.inl (some (.int z))) h1) : PMA l G yL_forbids (.codeWith yL_forbids cL_forbids 8 (some .int) [(0, 16, 19, 25), (0, 16, 23, 13)]) { frames := 9, cells := 6, slots := 36, locals := 160 } [.ref (ad 0), .int x0, .int x1, .int x2, .int x3, .int x4, .ref (ad 263)] SW ad h (gR SW ad (some (.int 0)) (hput h1 263 0 z)) gNo := by
  refine PMW.mk (L0 := [some (.ref (ad 0)), some (.int x0), some (.int x1), some (.int x2), some (.int x3), some (.int x4), some (.ref (ad 263)), none]) RL "forbids" 6 36 (by decide +kernel) rfl rfl ⟨rfl, rfl⟩ (by simp [Value.category]) (Nat.le_of_ble_eq_true rfl) rfl ?_
  refine pw_aload dL_forbids_0 rfl ?_
  refine pw_iconst dL_forbids_2 (v := 0) (by decide) ?_
  refine pw_aload_n dL_forbids_3 rfl ?_
  refine pw_iload_n dL_forbids_4 rfl ?_
  refine pw_iload_n dL_forbids_5 rfl ?_
  refine pw_iload_n dL_forbids_6 rfl ?_
  refine pw_iload dL_forbids_7 rfl ?_
  refine pw_iload dL_forbids_9 rfl ?_
  refine pw_tV dL_forbids_11 hc mi_X7_forbids mv_X7_forbids ml_L_53 sh_0 rfl rfl rfl rfl rfl rfl (fun Ex q => by cases q) (fun v q => ?_)
  cases q
  refine pw_i2l dL_forbids_14 ?_
  refine pw_last dL_forbids_15 sh_263 (vpin (n := 0) (N := 1) (by decide) (by decide)) (k := 0) rfl ?_
  refine pw_goto dL_forbids_16 (tgt := 27) (by decide) ?_
  refine pw_iconst dL_forbids_27 (v := 0) (by decide) ?_
  exact pw_iretF dL_forbids_28 rfl rfl rfl rfl rfl

set_option maxRecDepth 100000 in
set_option maxHeartbeats 4000000 in
theorem sp_L_forbids_x1 {l : Launch} {G : GC} {ad : Nat → Nat} {h h1 : HP} {x0 x1 x2 x3 x4 : Int32} (hc : PT l G yX7_forbids (.code yX7_forbids cX7_forbids 6 ((Option.some FieldType.int))) { frames := 8, cells := 6, slots := 36, locals := 135 } [.ref (ad 0), .int x0, .int x1, .int x2, .int x3, .int x4] SW ad h (.inr "java/lang/IndexOutOfBoundsException") h1) : PMA l G yL_forbids (.codeWith yL_forbids cL_forbids 8 (some .int) [(0, 16, 19, 25), (0, 16, 23, 13)]) { frames := 9, cells := 6, slots := 36, locals := 160 } [.ref (ad 0), .int x0, .int x1, .int x2, .int x3, .int x4, .ref (ad 263)] SW ad h (gR SW ad (some (.int 1)) (h1)) gNo := by
  refine PMW.mk (L0 := [some (.ref (ad 0)), some (.int x0), some (.int x1), some (.int x2), some (.int x3), some (.int x4), some (.ref (ad 263)), none]) RL "forbids" 6 36 (by decide +kernel) rfl rfl ⟨rfl, rfl⟩ (by simp [Value.category]) (Nat.le_of_ble_eq_true rfl) rfl ?_
  refine pw_aload dL_forbids_0 rfl ?_
  refine pw_iconst dL_forbids_2 (v := 0) (by decide) ?_
  refine pw_aload_n dL_forbids_3 rfl ?_
  refine pw_iload_n dL_forbids_4 rfl ?_
  refine pw_iload_n dL_forbids_5 rfl ?_
  refine pw_iload_n dL_forbids_6 rfl ?_
  refine pw_iload dL_forbids_7 rfl ?_
  refine pw_iload dL_forbids_9 rfl ?_
  refine pw_tV dL_forbids_11 hc mi_X7_forbids mv_X7_forbids ml_L_53 sh_0 rfl rfl rfl rfl rfl rfl (fun Ex q => ?_) (fun v q => by cases q)
  cases q
  refine px_catch (pre := []) (suf := [(0, 16, 23, 13)]) (x := (0, 16, 19, 25)) rfl (fun _ _ _ _ h9 => h9.2) (fun z hz => by cases hz) (by decide) (by decide) cl_L_25 ca_IOB (fun q => ?_)
  refine pw_astore dL_forbids_19 (by decide) rfl ?_
  refine pw_iconst dL_forbids_21 (v := 1) (by decide) ?_
  exact pw_iretF dL_forbids_22 rfl rfl rfl rfl rfl

set_option maxRecDepth 100000 in
set_option maxHeartbeats 4000000 in
theorem sp_L_forbids_x2 {l : Launch} {G : GC} {ad : Nat → Nat} {h h1 : HP} {x0 x1 x2 x3 x4 : Int32} (hc : PT l G yX7_forbids (.code yX7_forbids cX7_forbids 6 ((Option.some FieldType.int))) { frames := 8, cells := 6, slots := 36, locals := 135 } [.ref (ad 0), .int x0, .int x1, .int x2, .int x3, .int x4] SW ad h (.inr "java/lang/IllegalArgumentException") h1) : PMA l G yL_forbids (.codeWith yL_forbids cL_forbids 8 (some .int) [(0, 16, 19, 25), (0, 16, 23, 13)]) { frames := 9, cells := 6, slots := 36, locals := 160 } [.ref (ad 0), .int x0, .int x1, .int x2, .int x3, .int x4, .ref (ad 263)] SW ad h (gR SW ad (some (.int 2)) (h1)) gNo := by
  refine PMW.mk (L0 := [some (.ref (ad 0)), some (.int x0), some (.int x1), some (.int x2), some (.int x3), some (.int x4), some (.ref (ad 263)), none]) RL "forbids" 6 36 (by decide +kernel) rfl rfl ⟨rfl, rfl⟩ (by simp [Value.category]) (Nat.le_of_ble_eq_true rfl) rfl ?_
  refine pw_aload dL_forbids_0 rfl ?_
  refine pw_iconst dL_forbids_2 (v := 0) (by decide) ?_
  refine pw_aload_n dL_forbids_3 rfl ?_
  refine pw_iload_n dL_forbids_4 rfl ?_
  refine pw_iload_n dL_forbids_5 rfl ?_
  refine pw_iload_n dL_forbids_6 rfl ?_
  refine pw_iload dL_forbids_7 rfl ?_
  refine pw_iload dL_forbids_9 rfl ?_
  refine pw_tV dL_forbids_11 hc mi_X7_forbids mv_X7_forbids ml_L_53 sh_0 rfl rfl rfl rfl rfl rfl (fun Ex q => ?_) (fun v q => by cases q)
  cases q
  refine px_catch (pre := [(0, 16, 19, 25)]) (suf := []) (x := (0, 16, 23, 13)) rfl (fun _ _ _ _ h9 => h9.2) (fun z hz => by
    rcases List.mem_cons.mp hz with rfl | hz
    · exact ⟨by decide, _, cl_L_25, by decide⟩
    cases hz) (by decide) (by decide) cl_L_13 ca_IAE (fun q => ?_)
  refine pw_astore dL_forbids_23 (by decide) rfl ?_
  refine pw_iconst dL_forbids_25 (v := 2) (by decide) ?_
  exact pw_iretF dL_forbids_26 rfl rfl rfl rfl rfl

set_option maxRecDepth 100000 in
set_option maxHeartbeats 4000000 in
theorem sp_L_giveBack_ok {l : Launch} {G : GC} {ad : Nat → Nat} {h h1 : HP} {z : Int32} {x0 x1 x2 : Int32} (hc : PT l G yX7_giveBack (.code yX7_giveBack cX7_giveBack 4 ((Option.some FieldType.int))) { frames := 8, cells := 3, slots := 18, locals := 133 } [.ref (ad 0), .int x0, .int x1, .int x2] SW ad h (.inl (some (.int z))) h1) : PMA l G yL_giveBack (.codeWith yL_giveBack cL_giveBack 6 (some .int) [(0, 12, 15, 25), (0, 12, 19, 13)]) { frames := 9, cells := 3, slots := 18, locals := 156 } [.ref (ad 0), .int x0, .int x1, .int x2, .ref (ad 263)] SW ad h (gR SW ad (some (.int 0)) (hput h1 263 0 z)) gNo := by
  refine PMW.mk (L0 := [some (.ref (ad 0)), some (.int x0), some (.int x1), some (.int x2), some (.ref (ad 263)), none]) RL "giveBack" 3 18 (by decide +kernel) rfl rfl ⟨rfl, rfl⟩ (by simp [Value.category]) (Nat.le_of_ble_eq_true rfl) rfl ?_
  refine pw_aload dL_giveBack_0 rfl ?_
  refine pw_iconst dL_giveBack_2 (v := 0) (by decide) ?_
  refine pw_aload_n dL_giveBack_3 rfl ?_
  refine pw_iload_n dL_giveBack_4 rfl ?_
  refine pw_iload_n dL_giveBack_5 rfl ?_
  refine pw_iload_n dL_giveBack_6 rfl ?_
  refine pw_tV dL_giveBack_7 hc mi_X7_giveBack mv_X7_giveBack ml_L_73 sh_0 rfl rfl rfl rfl rfl rfl (fun Ex q => by cases q) (fun v q => ?_)
  cases q
  refine pw_i2l dL_giveBack_10 ?_
  refine pw_last dL_giveBack_11 sh_263 (vpin (n := 0) (N := 1) (by decide) (by decide)) (k := 0) rfl ?_
  refine pw_goto dL_giveBack_12 (tgt := 23) (by decide) ?_
  refine pw_iconst dL_giveBack_23 (v := 0) (by decide) ?_
  exact pw_iretF dL_giveBack_24 rfl rfl rfl rfl rfl

set_option maxRecDepth 100000 in
set_option maxHeartbeats 4000000 in
theorem sp_L_giveBack_x1 {l : Launch} {G : GC} {ad : Nat → Nat} {h h1 : HP} {x0 x1 x2 : Int32} (hc : PT l G yX7_giveBack (.code yX7_giveBack cX7_giveBack 4 ((Option.some FieldType.int))) { frames := 8, cells := 3, slots := 18, locals := 133 } [.ref (ad 0), .int x0, .int x1, .int x2] SW ad h (.inr "java/lang/IndexOutOfBoundsException") h1) : PMA l G yL_giveBack (.codeWith yL_giveBack cL_giveBack 6 (some .int) [(0, 12, 15, 25), (0, 12, 19, 13)]) { frames := 9, cells := 3, slots := 18, locals := 156 } [.ref (ad 0), .int x0, .int x1, .int x2, .ref (ad 263)] SW ad h (gR SW ad (some (.int 1)) (h1)) gNo := by
  refine PMW.mk (L0 := [some (.ref (ad 0)), some (.int x0), some (.int x1), some (.int x2), some (.ref (ad 263)), none]) RL "giveBack" 3 18 (by decide +kernel) rfl rfl ⟨rfl, rfl⟩ (by simp [Value.category]) (Nat.le_of_ble_eq_true rfl) rfl ?_
  refine pw_aload dL_giveBack_0 rfl ?_
  refine pw_iconst dL_giveBack_2 (v := 0) (by decide) ?_
  refine pw_aload_n dL_giveBack_3 rfl ?_
  refine pw_iload_n dL_giveBack_4 rfl ?_
  refine pw_iload_n dL_giveBack_5 rfl ?_
  refine pw_iload_n dL_giveBack_6 rfl ?_
  refine pw_tV dL_giveBack_7 hc mi_X7_giveBack mv_X7_giveBack ml_L_73 sh_0 rfl rfl rfl rfl rfl rfl (fun Ex q => ?_) (fun v q => by cases q)
  cases q
  refine px_catch (pre := []) (suf := [(0, 12, 19, 13)]) (x := (0, 12, 15, 25)) rfl (fun _ _ _ _ h9 => h9.2) (fun z hz => by cases hz) (by decide) (by decide) cl_L_25 ca_IOB (fun q => ?_)
  refine pw_astore dL_giveBack_15 (by decide) rfl ?_
  refine pw_iconst dL_giveBack_17 (v := 1) (by decide) ?_
  exact pw_iretF dL_giveBack_18 rfl rfl rfl rfl rfl

set_option maxRecDepth 100000 in
set_option maxHeartbeats 4000000 in
theorem sp_L_giveBack_x2 {l : Launch} {G : GC} {ad : Nat → Nat} {h h1 : HP} {x0 x1 x2 : Int32} (hc : PT l G yX7_giveBack (.code yX7_giveBack cX7_giveBack 4 ((Option.some FieldType.int))) { frames := 8, cells := 3, slots := 18, locals := 133 } [.ref (ad 0), .int x0, .int x1, .int x2] SW ad h (.inr "java/lang/IllegalArgumentException") h1) : PMA l G yL_giveBack (.codeWith yL_giveBack cL_giveBack 6 (some .int) [(0, 12, 15, 25), (0, 12, 19, 13)]) { frames := 9, cells := 3, slots := 18, locals := 156 } [.ref (ad 0), .int x0, .int x1, .int x2, .ref (ad 263)] SW ad h (gR SW ad (some (.int 2)) (h1)) gNo := by
  refine PMW.mk (L0 := [some (.ref (ad 0)), some (.int x0), some (.int x1), some (.int x2), some (.ref (ad 263)), none]) RL "giveBack" 3 18 (by decide +kernel) rfl rfl ⟨rfl, rfl⟩ (by simp [Value.category]) (Nat.le_of_ble_eq_true rfl) rfl ?_
  refine pw_aload dL_giveBack_0 rfl ?_
  refine pw_iconst dL_giveBack_2 (v := 0) (by decide) ?_
  refine pw_aload_n dL_giveBack_3 rfl ?_
  refine pw_iload_n dL_giveBack_4 rfl ?_
  refine pw_iload_n dL_giveBack_5 rfl ?_
  refine pw_iload_n dL_giveBack_6 rfl ?_
  refine pw_tV dL_giveBack_7 hc mi_X7_giveBack mv_X7_giveBack ml_L_73 sh_0 rfl rfl rfl rfl rfl rfl (fun Ex q => ?_) (fun v q => by cases q)
  cases q
  refine px_catch (pre := [(0, 12, 15, 25)]) (suf := []) (x := (0, 12, 19, 13)) rfl (fun _ _ _ _ h9 => h9.2) (fun z hz => by
    rcases List.mem_cons.mp hz with rfl | hz
    · exact ⟨by decide, _, cl_L_25, by decide⟩
    cases hz) (by decide) (by decide) cl_L_13 ca_IAE (fun q => ?_)
  refine pw_astore dL_giveBack_19 (by decide) rfl ?_
  refine pw_iconst dL_giveBack_21 (v := 2) (by decide) ?_
  exact pw_iretF dL_giveBack_22 rfl rfl rfl rfl rfl

set_option maxRecDepth 100000 in
set_option maxHeartbeats 4000000 in
theorem sp_L_greatest_ok {l : Launch} {G : GC} {ad : Nat → Nat} {h h1 : HP} {z : Int32} {x0 x1 : Int32} (hc : PT l G yX7_greatest (.code yX7_greatest cX7_greatest 3 ((Option.some FieldType.int))) { frames := 8, cells := 2, slots := 12, locals := 132 } [.ref (ad 0), .int x0, .int x1] SW ad h (.inl (some (.int z))) h1) : PMA l G yL_greatest (.codeWith yL_greatest cL_greatest 5 (some .int) [(0, 10, 13, 25), (0, 10, 17, 34)]) { frames := 9, cells := 2, slots := 12, locals := 154 } [.ref (ad 0), .int x0, .int x1, .ref (ad 263)] SW ad h (gR SW ad (some (.int 0)) (hput h1 263 0 z)) gNo := by
  refine PMW.mk (L0 := [some (.ref (ad 0)), some (.int x0), some (.int x1), some (.ref (ad 263)), none]) RL "greatest" 2 12 (by decide +kernel) rfl rfl ⟨rfl, rfl⟩ (by simp [Value.category]) (Nat.le_of_ble_eq_true rfl) rfl ?_
  refine pw_aload_n dL_greatest_0 rfl ?_
  refine pw_iconst dL_greatest_1 (v := 0) (by decide) ?_
  refine pw_aload_n dL_greatest_2 rfl ?_
  refine pw_iload_n dL_greatest_3 rfl ?_
  refine pw_iload_n dL_greatest_4 rfl ?_
  refine pw_tV dL_greatest_5 hc mi_X7_greatest mv_X7_greatest ml_L_39 sh_0 rfl rfl rfl rfl rfl rfl (fun Ex q => by cases q) (fun v q => ?_)
  cases q
  refine pw_i2l dL_greatest_8 ?_
  refine pw_last dL_greatest_9 sh_263 (vpin (n := 0) (N := 1) (by decide) (by decide)) (k := 0) rfl ?_
  refine pw_goto dL_greatest_10 (tgt := 21) (by decide) ?_
  refine pw_iconst dL_greatest_21 (v := 0) (by decide) ?_
  exact pw_iretF dL_greatest_22 rfl rfl rfl rfl rfl

set_option maxRecDepth 100000 in
set_option maxHeartbeats 4000000 in
theorem sp_L_greatest_x1 {l : Launch} {G : GC} {ad : Nat → Nat} {h h1 : HP} {x0 x1 : Int32} (hc : PT l G yX7_greatest (.code yX7_greatest cX7_greatest 3 ((Option.some FieldType.int))) { frames := 8, cells := 2, slots := 12, locals := 132 } [.ref (ad 0), .int x0, .int x1] SW ad h (.inr "java/lang/IndexOutOfBoundsException") h1) : PMA l G yL_greatest (.codeWith yL_greatest cL_greatest 5 (some .int) [(0, 10, 13, 25), (0, 10, 17, 34)]) { frames := 9, cells := 2, slots := 12, locals := 154 } [.ref (ad 0), .int x0, .int x1, .ref (ad 263)] SW ad h (gR SW ad (some (.int 1)) (h1)) gNo := by
  refine PMW.mk (L0 := [some (.ref (ad 0)), some (.int x0), some (.int x1), some (.ref (ad 263)), none]) RL "greatest" 2 12 (by decide +kernel) rfl rfl ⟨rfl, rfl⟩ (by simp [Value.category]) (Nat.le_of_ble_eq_true rfl) rfl ?_
  refine pw_aload_n dL_greatest_0 rfl ?_
  refine pw_iconst dL_greatest_1 (v := 0) (by decide) ?_
  refine pw_aload_n dL_greatest_2 rfl ?_
  refine pw_iload_n dL_greatest_3 rfl ?_
  refine pw_iload_n dL_greatest_4 rfl ?_
  refine pw_tV dL_greatest_5 hc mi_X7_greatest mv_X7_greatest ml_L_39 sh_0 rfl rfl rfl rfl rfl rfl (fun Ex q => ?_) (fun v q => by cases q)
  cases q
  refine px_catch (pre := []) (suf := [(0, 10, 17, 34)]) (x := (0, 10, 13, 25)) rfl (fun _ _ _ _ h9 => h9.2) (fun z hz => by cases hz) (by decide) (by decide) cl_L_25 ca_IOB (fun q => ?_)
  refine pw_astore dL_greatest_13 (by decide) rfl ?_
  refine pw_iconst dL_greatest_15 (v := 1) (by decide) ?_
  exact pw_iretF dL_greatest_16 rfl rfl rfl rfl rfl

set_option maxRecDepth 100000 in
set_option maxHeartbeats 4000000 in
theorem sp_L_greatest_x2 {l : Launch} {G : GC} {ad : Nat → Nat} {h h1 : HP} {x0 x1 : Int32} (hc : PT l G yX7_greatest (.code yX7_greatest cX7_greatest 3 ((Option.some FieldType.int))) { frames := 8, cells := 2, slots := 12, locals := 132 } [.ref (ad 0), .int x0, .int x1] SW ad h (.inr "java/util/NoSuchElementException") h1) : PMA l G yL_greatest (.codeWith yL_greatest cL_greatest 5 (some .int) [(0, 10, 13, 25), (0, 10, 17, 34)]) { frames := 9, cells := 2, slots := 12, locals := 154 } [.ref (ad 0), .int x0, .int x1, .ref (ad 263)] SW ad h (gR SW ad (some (.int 2)) (h1)) gNo := by
  refine PMW.mk (L0 := [some (.ref (ad 0)), some (.int x0), some (.int x1), some (.ref (ad 263)), none]) RL "greatest" 2 12 (by decide +kernel) rfl rfl ⟨rfl, rfl⟩ (by simp [Value.category]) (Nat.le_of_ble_eq_true rfl) rfl ?_
  refine pw_aload_n dL_greatest_0 rfl ?_
  refine pw_iconst dL_greatest_1 (v := 0) (by decide) ?_
  refine pw_aload_n dL_greatest_2 rfl ?_
  refine pw_iload_n dL_greatest_3 rfl ?_
  refine pw_iload_n dL_greatest_4 rfl ?_
  refine pw_tV dL_greatest_5 hc mi_X7_greatest mv_X7_greatest ml_L_39 sh_0 rfl rfl rfl rfl rfl rfl (fun Ex q => ?_) (fun v q => by cases q)
  cases q
  refine px_catch (pre := [(0, 10, 13, 25)]) (suf := []) (x := (0, 10, 17, 34)) rfl (fun _ _ _ _ h9 => h9.2) (fun z hz => by
    rcases List.mem_cons.mp hz with rfl | hz
    · exact ⟨by decide, _, cl_L_25, by decide⟩
    cases hz) (by decide) (by decide) cl_L_34 ca_NSE (fun q => ?_)
  refine pw_astore dL_greatest_17 (by decide) rfl ?_
  refine pw_iconst dL_greatest_19 (v := 2) (by decide) ?_
  exact pw_iretF dL_greatest_20 rfl rfl rfl rfl rfl

set_option maxRecDepth 100000 in
set_option maxHeartbeats 4000000 in
theorem sp_L_harvest_ok {l : Launch} {G : GC} {ad : Nat → Nat} {h h1 : HP} {z : Int32} {x0 x1 x2 x3 : Int32} (hc : PT l G yX7_harvest (.code yX7_harvest cX7_harvest 5 ((Option.some FieldType.int))) { frames := 7, cells := 5, slots := 30, locals := 125 } [.ref (ad 0), .int x0, .int x1, .int x2, .int x3] SW ad h (.inl (some (.int z))) h1) : PMA l G yL_harvest (.codeWith yL_harvest cL_harvest 7 (some .int) [(0, 14, 17, 13), (0, 14, 21, 15)]) { frames := 8, cells := 5, slots := 30, locals := 149 } [.ref (ad 0), .int x0, .int x1, .int x2, .int x3, .ref (ad 263)] SW ad h (gR SW ad (some (.int 0)) (hput h1 263 0 z)) gNo := by
  refine PMW.mk (L0 := [some (.ref (ad 0)), some (.int x0), some (.int x1), some (.int x2), some (.int x3), some (.ref (ad 263)), none]) RL "harvest" 5 30 (by decide +kernel) rfl rfl ⟨rfl, rfl⟩ (by simp [Value.category]) (Nat.le_of_ble_eq_true rfl) rfl ?_
  refine pw_aload dL_harvest_0 rfl ?_
  refine pw_iconst dL_harvest_2 (v := 0) (by decide) ?_
  refine pw_aload_n dL_harvest_3 rfl ?_
  refine pw_iload_n dL_harvest_4 rfl ?_
  refine pw_iload_n dL_harvest_5 rfl ?_
  refine pw_iload_n dL_harvest_6 rfl ?_
  refine pw_iload dL_harvest_7 rfl ?_
  refine pw_tV dL_harvest_9 hc mi_X7_harvest mv_X7_harvest ml_L_7 sh_0 rfl rfl rfl rfl rfl rfl (fun Ex q => by cases q) (fun v q => ?_)
  cases q
  refine pw_i2l dL_harvest_12 ?_
  refine pw_last dL_harvest_13 sh_263 (vpin (n := 0) (N := 1) (by decide) (by decide)) (k := 0) rfl ?_
  refine pw_goto dL_harvest_14 (tgt := 25) (by decide) ?_
  refine pw_iconst dL_harvest_25 (v := 0) (by decide) ?_
  exact pw_iretF dL_harvest_26 rfl rfl rfl rfl rfl

set_option maxRecDepth 100000 in
set_option maxHeartbeats 4000000 in
theorem sp_L_harvest_x1 {l : Launch} {G : GC} {ad : Nat → Nat} {h h1 : HP} {x0 x1 x2 x3 : Int32} (hc : PT l G yX7_harvest (.code yX7_harvest cX7_harvest 5 ((Option.some FieldType.int))) { frames := 7, cells := 5, slots := 30, locals := 125 } [.ref (ad 0), .int x0, .int x1, .int x2, .int x3] SW ad h (.inr "java/lang/IllegalArgumentException") h1) : PMA l G yL_harvest (.codeWith yL_harvest cL_harvest 7 (some .int) [(0, 14, 17, 13), (0, 14, 21, 15)]) { frames := 8, cells := 5, slots := 30, locals := 149 } [.ref (ad 0), .int x0, .int x1, .int x2, .int x3, .ref (ad 263)] SW ad h (gR SW ad (some (.int 1)) (h1)) gNo := by
  refine PMW.mk (L0 := [some (.ref (ad 0)), some (.int x0), some (.int x1), some (.int x2), some (.int x3), some (.ref (ad 263)), none]) RL "harvest" 5 30 (by decide +kernel) rfl rfl ⟨rfl, rfl⟩ (by simp [Value.category]) (Nat.le_of_ble_eq_true rfl) rfl ?_
  refine pw_aload dL_harvest_0 rfl ?_
  refine pw_iconst dL_harvest_2 (v := 0) (by decide) ?_
  refine pw_aload_n dL_harvest_3 rfl ?_
  refine pw_iload_n dL_harvest_4 rfl ?_
  refine pw_iload_n dL_harvest_5 rfl ?_
  refine pw_iload_n dL_harvest_6 rfl ?_
  refine pw_iload dL_harvest_7 rfl ?_
  refine pw_tV dL_harvest_9 hc mi_X7_harvest mv_X7_harvest ml_L_7 sh_0 rfl rfl rfl rfl rfl rfl (fun Ex q => ?_) (fun v q => by cases q)
  cases q
  refine px_catch (pre := []) (suf := [(0, 14, 21, 15)]) (x := (0, 14, 17, 13)) rfl (fun _ _ _ _ h9 => h9.2) (fun z hz => by cases hz) (by decide) (by decide) cl_L_13 ca_IAE (fun q => ?_)
  refine pw_astore dL_harvest_17 (by decide) rfl ?_
  refine pw_iconst dL_harvest_19 (v := 1) (by decide) ?_
  exact pw_iretF dL_harvest_20 rfl rfl rfl rfl rfl

set_option maxRecDepth 100000 in
set_option maxHeartbeats 4000000 in
theorem sp_L_harvest_x2 {l : Launch} {G : GC} {ad : Nat → Nat} {h h1 : HP} {x0 x1 x2 x3 : Int32} (hc : PT l G yX7_harvest (.code yX7_harvest cX7_harvest 5 ((Option.some FieldType.int))) { frames := 7, cells := 5, slots := 30, locals := 125 } [.ref (ad 0), .int x0, .int x1, .int x2, .int x3] SW ad h (.inr "java/lang/IllegalStateException") h1) : PMA l G yL_harvest (.codeWith yL_harvest cL_harvest 7 (some .int) [(0, 14, 17, 13), (0, 14, 21, 15)]) { frames := 8, cells := 5, slots := 30, locals := 149 } [.ref (ad 0), .int x0, .int x1, .int x2, .int x3, .ref (ad 263)] SW ad h (gR SW ad (some (.int 2)) (h1)) gNo := by
  refine PMW.mk (L0 := [some (.ref (ad 0)), some (.int x0), some (.int x1), some (.int x2), some (.int x3), some (.ref (ad 263)), none]) RL "harvest" 5 30 (by decide +kernel) rfl rfl ⟨rfl, rfl⟩ (by simp [Value.category]) (Nat.le_of_ble_eq_true rfl) rfl ?_
  refine pw_aload dL_harvest_0 rfl ?_
  refine pw_iconst dL_harvest_2 (v := 0) (by decide) ?_
  refine pw_aload_n dL_harvest_3 rfl ?_
  refine pw_iload_n dL_harvest_4 rfl ?_
  refine pw_iload_n dL_harvest_5 rfl ?_
  refine pw_iload_n dL_harvest_6 rfl ?_
  refine pw_iload dL_harvest_7 rfl ?_
  refine pw_tV dL_harvest_9 hc mi_X7_harvest mv_X7_harvest ml_L_7 sh_0 rfl rfl rfl rfl rfl rfl (fun Ex q => ?_) (fun v q => by cases q)
  cases q
  refine px_catch (pre := [(0, 14, 17, 13)]) (suf := []) (x := (0, 14, 21, 15)) rfl (fun _ _ _ _ h9 => h9.2) (fun z hz => by
    rcases List.mem_cons.mp hz with rfl | hz
    · exact ⟨by decide, _, cl_L_13, by decide⟩
    cases hz) (by decide) (by decide) cl_L_15 ca_ISE (fun q => ?_)
  refine pw_astore dL_harvest_21 (by decide) rfl ?_
  refine pw_iconst dL_harvest_23 (v := 2) (by decide) ?_
  exact pw_iretF dL_harvest_24 rfl rfl rfl rfl rfl

set_option maxRecDepth 100000 in
set_option maxHeartbeats 4000000 in
theorem sp_L_holds_ok {l : Launch} {G : GC} {ad : Nat → Nat} {h h1 : HP} {z : Int32} {x0 x1 x2 : Int32} (hc : PT l G yX7_holds (.code yX7_holds cX7_holds 4 ((Option.some FieldType.int))) { frames := 8, cells := 3, slots := 18, locals := 133 } [.ref (ad 0), .int x0, .int x1, .int x2] SW ad h (.inl (some (.int z))) h1) : PMA l G yL_holds (.codeWith yL_holds cL_holds 6 (some .int) [(0, 12, 15, 25), (0, 12, 19, 13)]) { frames := 9, cells := 3, slots := 18, locals := 156 } [.ref (ad 0), .int x0, .int x1, .int x2, .ref (ad 263)] SW ad h (gR SW ad (some (.int 0)) (hput h1 263 0 z)) gNo := by
  refine PMW.mk (L0 := [some (.ref (ad 0)), some (.int x0), some (.int x1), some (.int x2), some (.ref (ad 263)), none]) RL "holds" 3 18 (by decide +kernel) rfl rfl ⟨rfl, rfl⟩ (by simp [Value.category]) (Nat.le_of_ble_eq_true rfl) rfl ?_
  refine pw_aload dL_holds_0 rfl ?_
  refine pw_iconst dL_holds_2 (v := 0) (by decide) ?_
  refine pw_aload_n dL_holds_3 rfl ?_
  refine pw_iload_n dL_holds_4 rfl ?_
  refine pw_iload_n dL_holds_5 rfl ?_
  refine pw_iload_n dL_holds_6 rfl ?_
  refine pw_tV dL_holds_7 hc mi_X7_holds mv_X7_holds ml_L_76 sh_0 rfl rfl rfl rfl rfl rfl (fun Ex q => by cases q) (fun v q => ?_)
  cases q
  refine pw_i2l dL_holds_10 ?_
  refine pw_last dL_holds_11 sh_263 (vpin (n := 0) (N := 1) (by decide) (by decide)) (k := 0) rfl ?_
  refine pw_goto dL_holds_12 (tgt := 23) (by decide) ?_
  refine pw_iconst dL_holds_23 (v := 0) (by decide) ?_
  exact pw_iretF dL_holds_24 rfl rfl rfl rfl rfl

set_option maxRecDepth 100000 in
set_option maxHeartbeats 4000000 in
theorem sp_L_holds_x1 {l : Launch} {G : GC} {ad : Nat → Nat} {h h1 : HP} {x0 x1 x2 : Int32} (hc : PT l G yX7_holds (.code yX7_holds cX7_holds 4 ((Option.some FieldType.int))) { frames := 8, cells := 3, slots := 18, locals := 133 } [.ref (ad 0), .int x0, .int x1, .int x2] SW ad h (.inr "java/lang/IndexOutOfBoundsException") h1) : PMA l G yL_holds (.codeWith yL_holds cL_holds 6 (some .int) [(0, 12, 15, 25), (0, 12, 19, 13)]) { frames := 9, cells := 3, slots := 18, locals := 156 } [.ref (ad 0), .int x0, .int x1, .int x2, .ref (ad 263)] SW ad h (gR SW ad (some (.int 1)) (h1)) gNo := by
  refine PMW.mk (L0 := [some (.ref (ad 0)), some (.int x0), some (.int x1), some (.int x2), some (.ref (ad 263)), none]) RL "holds" 3 18 (by decide +kernel) rfl rfl ⟨rfl, rfl⟩ (by simp [Value.category]) (Nat.le_of_ble_eq_true rfl) rfl ?_
  refine pw_aload dL_holds_0 rfl ?_
  refine pw_iconst dL_holds_2 (v := 0) (by decide) ?_
  refine pw_aload_n dL_holds_3 rfl ?_
  refine pw_iload_n dL_holds_4 rfl ?_
  refine pw_iload_n dL_holds_5 rfl ?_
  refine pw_iload_n dL_holds_6 rfl ?_
  refine pw_tV dL_holds_7 hc mi_X7_holds mv_X7_holds ml_L_76 sh_0 rfl rfl rfl rfl rfl rfl (fun Ex q => ?_) (fun v q => by cases q)
  cases q
  refine px_catch (pre := []) (suf := [(0, 12, 19, 13)]) (x := (0, 12, 15, 25)) rfl (fun _ _ _ _ h9 => h9.2) (fun z hz => by cases hz) (by decide) (by decide) cl_L_25 ca_IOB (fun q => ?_)
  refine pw_astore dL_holds_15 (by decide) rfl ?_
  refine pw_iconst dL_holds_17 (v := 1) (by decide) ?_
  exact pw_iretF dL_holds_18 rfl rfl rfl rfl rfl

set_option maxRecDepth 100000 in
set_option maxHeartbeats 4000000 in
theorem sp_L_holds_x2 {l : Launch} {G : GC} {ad : Nat → Nat} {h h1 : HP} {x0 x1 x2 : Int32} (hc : PT l G yX7_holds (.code yX7_holds cX7_holds 4 ((Option.some FieldType.int))) { frames := 8, cells := 3, slots := 18, locals := 133 } [.ref (ad 0), .int x0, .int x1, .int x2] SW ad h (.inr "java/lang/IllegalArgumentException") h1) : PMA l G yL_holds (.codeWith yL_holds cL_holds 6 (some .int) [(0, 12, 15, 25), (0, 12, 19, 13)]) { frames := 9, cells := 3, slots := 18, locals := 156 } [.ref (ad 0), .int x0, .int x1, .int x2, .ref (ad 263)] SW ad h (gR SW ad (some (.int 2)) (h1)) gNo := by
  refine PMW.mk (L0 := [some (.ref (ad 0)), some (.int x0), some (.int x1), some (.int x2), some (.ref (ad 263)), none]) RL "holds" 3 18 (by decide +kernel) rfl rfl ⟨rfl, rfl⟩ (by simp [Value.category]) (Nat.le_of_ble_eq_true rfl) rfl ?_
  refine pw_aload dL_holds_0 rfl ?_
  refine pw_iconst dL_holds_2 (v := 0) (by decide) ?_
  refine pw_aload_n dL_holds_3 rfl ?_
  refine pw_iload_n dL_holds_4 rfl ?_
  refine pw_iload_n dL_holds_5 rfl ?_
  refine pw_iload_n dL_holds_6 rfl ?_
  refine pw_tV dL_holds_7 hc mi_X7_holds mv_X7_holds ml_L_76 sh_0 rfl rfl rfl rfl rfl rfl (fun Ex q => ?_) (fun v q => by cases q)
  cases q
  refine px_catch (pre := [(0, 12, 15, 25)]) (suf := []) (x := (0, 12, 19, 13)) rfl (fun _ _ _ _ h9 => h9.2) (fun z hz => by
    rcases List.mem_cons.mp hz with rfl | hz
    · exact ⟨by decide, _, cl_L_25, by decide⟩
    cases hz) (by decide) (by decide) cl_L_13 ca_IAE (fun q => ?_)
  refine pw_astore dL_holds_19 (by decide) rfl ?_
  refine pw_iconst dL_holds_21 (v := 2) (by decide) ?_
  exact pw_iretF dL_holds_22 rfl rfl rfl rfl rfl

set_option maxRecDepth 100000 in
set_option maxHeartbeats 4000000 in
theorem sp_L_listed_ok {l : Launch} {G : GC} {ad : Nat → Nat} {h h1 : HP} {z : Int32} {x0 x1 : Int32} (hc : PT l G yX7_listed (.code yX7_listed cX7_listed 4 ((Option.some FieldType.int))) { frames := 7, cells := 2, slots := 12, locals := 111 } [.ref (ad 0), .int x0, .int x1] SW ad h (.inl (some (.int z))) h1) : PMA l G yL_listed (.codeWith yL_listed cL_listed 5 (some .int) [(0, 10, 13, 25), (0, 10, 17, 34)]) { frames := 8, cells := 2, slots := 12, locals := 134 } [.ref (ad 0), .int x0, .int x1, .ref (ad 263)] SW ad h (gR SW ad (some (.int 0)) (hput h1 263 0 z)) gNo := by
  refine PMW.mk (L0 := [some (.ref (ad 0)), some (.int x0), some (.int x1), some (.ref (ad 263)), none]) RL "listed" 2 12 (by decide +kernel) rfl rfl ⟨rfl, rfl⟩ (by simp [Value.category]) (Nat.le_of_ble_eq_true rfl) rfl ?_
  refine pw_aload_n dL_listed_0 rfl ?_
  refine pw_iconst dL_listed_1 (v := 0) (by decide) ?_
  refine pw_aload_n dL_listed_2 rfl ?_
  refine pw_iload_n dL_listed_3 rfl ?_
  refine pw_iload_n dL_listed_4 rfl ?_
  refine pw_tV dL_listed_5 hc mi_X7_listed mv_X7_listed ml_L_79 sh_0 rfl rfl rfl rfl rfl rfl (fun Ex q => by cases q) (fun v q => ?_)
  cases q
  refine pw_i2l dL_listed_8 ?_
  refine pw_last dL_listed_9 sh_263 (vpin (n := 0) (N := 1) (by decide) (by decide)) (k := 0) rfl ?_
  refine pw_goto dL_listed_10 (tgt := 21) (by decide) ?_
  refine pw_iconst dL_listed_21 (v := 0) (by decide) ?_
  exact pw_iretF dL_listed_22 rfl rfl rfl rfl rfl

set_option maxRecDepth 100000 in
set_option maxHeartbeats 4000000 in
theorem sp_L_listed_x1 {l : Launch} {G : GC} {ad : Nat → Nat} {h h1 : HP} {x0 x1 : Int32} (hc : PT l G yX7_listed (.code yX7_listed cX7_listed 4 ((Option.some FieldType.int))) { frames := 7, cells := 2, slots := 12, locals := 111 } [.ref (ad 0), .int x0, .int x1] SW ad h (.inr "java/lang/IndexOutOfBoundsException") h1) : PMA l G yL_listed (.codeWith yL_listed cL_listed 5 (some .int) [(0, 10, 13, 25), (0, 10, 17, 34)]) { frames := 8, cells := 2, slots := 12, locals := 134 } [.ref (ad 0), .int x0, .int x1, .ref (ad 263)] SW ad h (gR SW ad (some (.int 1)) (h1)) gNo := by
  refine PMW.mk (L0 := [some (.ref (ad 0)), some (.int x0), some (.int x1), some (.ref (ad 263)), none]) RL "listed" 2 12 (by decide +kernel) rfl rfl ⟨rfl, rfl⟩ (by simp [Value.category]) (Nat.le_of_ble_eq_true rfl) rfl ?_
  refine pw_aload_n dL_listed_0 rfl ?_
  refine pw_iconst dL_listed_1 (v := 0) (by decide) ?_
  refine pw_aload_n dL_listed_2 rfl ?_
  refine pw_iload_n dL_listed_3 rfl ?_
  refine pw_iload_n dL_listed_4 rfl ?_
  refine pw_tV dL_listed_5 hc mi_X7_listed mv_X7_listed ml_L_79 sh_0 rfl rfl rfl rfl rfl rfl (fun Ex q => ?_) (fun v q => by cases q)
  cases q
  refine px_catch (pre := []) (suf := [(0, 10, 17, 34)]) (x := (0, 10, 13, 25)) rfl (fun _ _ _ _ h9 => h9.2) (fun z hz => by cases hz) (by decide) (by decide) cl_L_25 ca_IOB (fun q => ?_)
  refine pw_astore dL_listed_13 (by decide) rfl ?_
  refine pw_iconst dL_listed_15 (v := 1) (by decide) ?_
  exact pw_iretF dL_listed_16 rfl rfl rfl rfl rfl

set_option maxRecDepth 100000 in
set_option maxHeartbeats 4000000 in
theorem sp_L_listed_x2 {l : Launch} {G : GC} {ad : Nat → Nat} {h h1 : HP} {x0 x1 : Int32} (hc : PT l G yX7_listed (.code yX7_listed cX7_listed 4 ((Option.some FieldType.int))) { frames := 7, cells := 2, slots := 12, locals := 111 } [.ref (ad 0), .int x0, .int x1] SW ad h (.inr "java/util/NoSuchElementException") h1) : PMA l G yL_listed (.codeWith yL_listed cL_listed 5 (some .int) [(0, 10, 13, 25), (0, 10, 17, 34)]) { frames := 8, cells := 2, slots := 12, locals := 134 } [.ref (ad 0), .int x0, .int x1, .ref (ad 263)] SW ad h (gR SW ad (some (.int 2)) (h1)) gNo := by
  refine PMW.mk (L0 := [some (.ref (ad 0)), some (.int x0), some (.int x1), some (.ref (ad 263)), none]) RL "listed" 2 12 (by decide +kernel) rfl rfl ⟨rfl, rfl⟩ (by simp [Value.category]) (Nat.le_of_ble_eq_true rfl) rfl ?_
  refine pw_aload_n dL_listed_0 rfl ?_
  refine pw_iconst dL_listed_1 (v := 0) (by decide) ?_
  refine pw_aload_n dL_listed_2 rfl ?_
  refine pw_iload_n dL_listed_3 rfl ?_
  refine pw_iload_n dL_listed_4 rfl ?_
  refine pw_tV dL_listed_5 hc mi_X7_listed mv_X7_listed ml_L_79 sh_0 rfl rfl rfl rfl rfl rfl (fun Ex q => ?_) (fun v q => by cases q)
  cases q
  refine px_catch (pre := [(0, 10, 13, 25)]) (suf := []) (x := (0, 10, 17, 34)) rfl (fun _ _ _ _ h9 => h9.2) (fun z hz => by
    rcases List.mem_cons.mp hz with rfl | hz
    · exact ⟨by decide, _, cl_L_25, by decide⟩
    cases hz) (by decide) (by decide) cl_L_34 ca_NSE (fun q => ?_)
  refine pw_astore dL_listed_17 (by decide) rfl ?_
  refine pw_iconst dL_listed_19 (v := 2) (by decide) ?_
  exact pw_iretF dL_listed_20 rfl rfl rfl rfl rfl

set_option maxRecDepth 100000 in
set_option maxHeartbeats 4000000 in
theorem sp_L_lot_ok {l : Launch} {G : GC} {ad : Nat → Nat} {h h1 : HP} {z : Int32} {x0 x1 : Int32} (hc : PT l G yX7_lot (.code yX7_lot cX7_lot 3 ((Option.some FieldType.int))) { frames := 8, cells := 2, slots := 12, locals := 132 } [.ref (ad 0), .int x0, .int x1] SW ad h (.inl (some (.int z))) h1) : PMA l G yL_lot (.codeWith yL_lot cL_lot 5 (some .int) [(0, 10, 13, 25), (0, 10, 17, 13)]) { frames := 9, cells := 2, slots := 12, locals := 154 } [.ref (ad 0), .int x0, .int x1, .ref (ad 263)] SW ad h (gR SW ad (some (.int 0)) (hput h1 263 0 z)) gNo := by
  refine PMW.mk (L0 := [some (.ref (ad 0)), some (.int x0), some (.int x1), some (.ref (ad 263)), none]) RL "lot" 2 12 (by decide +kernel) rfl rfl ⟨rfl, rfl⟩ (by simp [Value.category]) (Nat.le_of_ble_eq_true rfl) rfl ?_
  refine pw_aload_n dL_lot_0 rfl ?_
  refine pw_iconst dL_lot_1 (v := 0) (by decide) ?_
  refine pw_aload_n dL_lot_2 rfl ?_
  refine pw_iload_n dL_lot_3 rfl ?_
  refine pw_iload_n dL_lot_4 rfl ?_
  refine pw_tV dL_lot_5 hc mi_X7_lot mv_X7_lot ml_L_27 sh_0 rfl rfl rfl rfl rfl rfl (fun Ex q => by cases q) (fun v q => ?_)
  cases q
  refine pw_i2l dL_lot_8 ?_
  refine pw_last dL_lot_9 sh_263 (vpin (n := 0) (N := 1) (by decide) (by decide)) (k := 0) rfl ?_
  refine pw_goto dL_lot_10 (tgt := 21) (by decide) ?_
  refine pw_iconst dL_lot_21 (v := 0) (by decide) ?_
  exact pw_iretF dL_lot_22 rfl rfl rfl rfl rfl

set_option maxRecDepth 100000 in
set_option maxHeartbeats 4000000 in
theorem sp_L_lot_x1 {l : Launch} {G : GC} {ad : Nat → Nat} {h h1 : HP} {x0 x1 : Int32} (hc : PT l G yX7_lot (.code yX7_lot cX7_lot 3 ((Option.some FieldType.int))) { frames := 8, cells := 2, slots := 12, locals := 132 } [.ref (ad 0), .int x0, .int x1] SW ad h (.inr "java/lang/IndexOutOfBoundsException") h1) : PMA l G yL_lot (.codeWith yL_lot cL_lot 5 (some .int) [(0, 10, 13, 25), (0, 10, 17, 13)]) { frames := 9, cells := 2, slots := 12, locals := 154 } [.ref (ad 0), .int x0, .int x1, .ref (ad 263)] SW ad h (gR SW ad (some (.int 1)) (h1)) gNo := by
  refine PMW.mk (L0 := [some (.ref (ad 0)), some (.int x0), some (.int x1), some (.ref (ad 263)), none]) RL "lot" 2 12 (by decide +kernel) rfl rfl ⟨rfl, rfl⟩ (by simp [Value.category]) (Nat.le_of_ble_eq_true rfl) rfl ?_
  refine pw_aload_n dL_lot_0 rfl ?_
  refine pw_iconst dL_lot_1 (v := 0) (by decide) ?_
  refine pw_aload_n dL_lot_2 rfl ?_
  refine pw_iload_n dL_lot_3 rfl ?_
  refine pw_iload_n dL_lot_4 rfl ?_
  refine pw_tV dL_lot_5 hc mi_X7_lot mv_X7_lot ml_L_27 sh_0 rfl rfl rfl rfl rfl rfl (fun Ex q => ?_) (fun v q => by cases q)
  cases q
  refine px_catch (pre := []) (suf := [(0, 10, 17, 13)]) (x := (0, 10, 13, 25)) rfl (fun _ _ _ _ h9 => h9.2) (fun z hz => by cases hz) (by decide) (by decide) cl_L_25 ca_IOB (fun q => ?_)
  refine pw_astore dL_lot_13 (by decide) rfl ?_
  refine pw_iconst dL_lot_15 (v := 1) (by decide) ?_
  exact pw_iretF dL_lot_16 rfl rfl rfl rfl rfl

set_option maxRecDepth 100000 in
set_option maxHeartbeats 4000000 in
theorem sp_L_lot_x2 {l : Launch} {G : GC} {ad : Nat → Nat} {h h1 : HP} {x0 x1 : Int32} (hc : PT l G yX7_lot (.code yX7_lot cX7_lot 3 ((Option.some FieldType.int))) { frames := 8, cells := 2, slots := 12, locals := 132 } [.ref (ad 0), .int x0, .int x1] SW ad h (.inr "java/lang/IllegalArgumentException") h1) : PMA l G yL_lot (.codeWith yL_lot cL_lot 5 (some .int) [(0, 10, 13, 25), (0, 10, 17, 13)]) { frames := 9, cells := 2, slots := 12, locals := 154 } [.ref (ad 0), .int x0, .int x1, .ref (ad 263)] SW ad h (gR SW ad (some (.int 2)) (h1)) gNo := by
  refine PMW.mk (L0 := [some (.ref (ad 0)), some (.int x0), some (.int x1), some (.ref (ad 263)), none]) RL "lot" 2 12 (by decide +kernel) rfl rfl ⟨rfl, rfl⟩ (by simp [Value.category]) (Nat.le_of_ble_eq_true rfl) rfl ?_
  refine pw_aload_n dL_lot_0 rfl ?_
  refine pw_iconst dL_lot_1 (v := 0) (by decide) ?_
  refine pw_aload_n dL_lot_2 rfl ?_
  refine pw_iload_n dL_lot_3 rfl ?_
  refine pw_iload_n dL_lot_4 rfl ?_
  refine pw_tV dL_lot_5 hc mi_X7_lot mv_X7_lot ml_L_27 sh_0 rfl rfl rfl rfl rfl rfl (fun Ex q => ?_) (fun v q => by cases q)
  cases q
  refine px_catch (pre := [(0, 10, 13, 25)]) (suf := []) (x := (0, 10, 17, 13)) rfl (fun _ _ _ _ h9 => h9.2) (fun z hz => by
    rcases List.mem_cons.mp hz with rfl | hz
    · exact ⟨by decide, _, cl_L_25, by decide⟩
    cases hz) (by decide) (by decide) cl_L_13 ca_IAE (fun q => ?_)
  refine pw_astore dL_lot_17 (by decide) rfl ?_
  refine pw_iconst dL_lot_19 (v := 2) (by decide) ?_
  exact pw_iretF dL_lot_20 rfl rfl rfl rfl rfl

set_option maxRecDepth 100000 in
set_option maxHeartbeats 4000000 in
theorem sp_L_meanVintage_ok {l : Launch} {G : GC} {ad : Nat → Nat} {h h1 : HP} {z : Int32} {x0 : Int32} (hc : PT l G yX7_meanVintage (.code yX7_meanVintage cX7_meanVintage 2 ((Option.some FieldType.double))) { frames := 8, cells := 1, slots := 6, locals := 132 } [.ref (ad 0), .int x0] SW ad h (.inl (some (.double (mil z)))) h1) : PMA l G yL_meanVintage (.codeWith yL_meanVintage cL_meanVintage 4 (some .int) [(0, 8, 11, 25)]) { frames := 9, cells := 1, slots := 6, locals := 153 } [.ref (ad 0), .int x0, .ref (ad 264)] SW ad h (gR SW ad (some (.int 0)) (hput h1 264 0 z)) gNo := by
  refine PMW.mk (L0 := [some (.ref (ad 0)), some (.int x0), some (.ref (ad 264)), none]) RL "meanVintage" 1 6 (by decide +kernel) rfl rfl ⟨rfl, rfl⟩ (by simp [Value.category]) (Nat.le_of_ble_eq_true rfl) rfl ?_
  refine pw_aload_n dL_meanVintage_0 rfl ?_
  refine pw_iconst dL_meanVintage_1 (v := 0) (by decide) ?_
  refine pw_aload_n dL_meanVintage_2 rfl ?_
  refine pw_iload_n dL_meanVintage_3 rfl ?_
  refine pw_tV dL_meanVintage_4 hc mi_X7_meanVintage mv_X7_meanVintage ml_L_42 sh_0 rfl rfl rfl rfl rfl rfl (fun Ex q => by cases q) (fun v q => ?_)
  cases q
  refine pw_dast dL_meanVintage_7 sh_264 (vpin (n := 0) (N := 1) (by decide) (by decide)) (k := 0) rfl ?_
  refine pw_goto dL_meanVintage_8 (tgt := 14) (by decide) ?_
  refine pw_iconst dL_meanVintage_14 (v := 0) (by decide) ?_
  exact pw_iretF dL_meanVintage_15 rfl rfl rfl rfl rfl

set_option maxRecDepth 100000 in
set_option maxHeartbeats 4000000 in
theorem sp_L_meanVintage_x1 {l : Launch} {G : GC} {ad : Nat → Nat} {h h1 : HP} {x0 : Int32} (hc : PT l G yX7_meanVintage (.code yX7_meanVintage cX7_meanVintage 2 ((Option.some FieldType.double))) { frames := 8, cells := 1, slots := 6, locals := 132 } [.ref (ad 0), .int x0] SW ad h (.inr "java/lang/IndexOutOfBoundsException") h1) : PMA l G yL_meanVintage (.codeWith yL_meanVintage cL_meanVintage 4 (some .int) [(0, 8, 11, 25)]) { frames := 9, cells := 1, slots := 6, locals := 153 } [.ref (ad 0), .int x0, .ref (ad 264)] SW ad h (gR SW ad (some (.int 1)) (h1)) gNo := by
  refine PMW.mk (L0 := [some (.ref (ad 0)), some (.int x0), some (.ref (ad 264)), none]) RL "meanVintage" 1 6 (by decide +kernel) rfl rfl ⟨rfl, rfl⟩ (by simp [Value.category]) (Nat.le_of_ble_eq_true rfl) rfl ?_
  refine pw_aload_n dL_meanVintage_0 rfl ?_
  refine pw_iconst dL_meanVintage_1 (v := 0) (by decide) ?_
  refine pw_aload_n dL_meanVintage_2 rfl ?_
  refine pw_iload_n dL_meanVintage_3 rfl ?_
  refine pw_tV dL_meanVintage_4 hc mi_X7_meanVintage mv_X7_meanVintage ml_L_42 sh_0 rfl rfl rfl rfl rfl rfl (fun Ex q => ?_) (fun v q => by cases q)
  cases q
  refine px_catch (pre := []) (suf := []) (x := (0, 8, 11, 25)) rfl (fun _ _ _ _ h9 => h9.2) (fun z hz => by cases hz) (by decide) (by decide) cl_L_25 ca_IOB (fun q => ?_)
  refine pw_astore_n dL_meanVintage_11 (by decide) rfl ?_
  refine pw_iconst dL_meanVintage_12 (v := 1) (by decide) ?_
  exact pw_iretF dL_meanVintage_13 rfl rfl rfl rfl rfl

set_option maxRecDepth 100000 in
set_option maxHeartbeats 4000000 in
theorem sp_L_part_ok {l : Launch} {G : GC} {ad : Nat → Nat} {h h1 : HP} {z : Int32} {x0 x1 x2 : Int32} (hc : PT l G yX7_part (.code yX7_part cX7_part 4 ((Option.some FieldType.int))) { frames := 8, cells := 3, slots := 18, locals := 132 } [.ref (ad 0), .int x0, .int x1, .int x2] SW ad h (.inl (some (.int z))) h1) : PMA l G yL_part (.codeWith yL_part cL_part 6 (some .int) [(0, 12, 15, 25), (0, 12, 19, 34), (0, 12, 23, 13)]) { frames := 9, cells := 3, slots := 18, locals := 155 } [.ref (ad 0), .int x0, .int x1, .int x2, .ref (ad 263)] SW ad h (gR SW ad (some (.int 0)) (hput h1 263 0 z)) gNo := by
  refine PMW.mk (L0 := [some (.ref (ad 0)), some (.int x0), some (.int x1), some (.int x2), some (.ref (ad 263)), none]) RL "part" 3 18 (by decide +kernel) rfl rfl ⟨rfl, rfl⟩ (by simp [Value.category]) (Nat.le_of_ble_eq_true rfl) rfl ?_
  refine pw_aload dL_part_0 rfl ?_
  refine pw_iconst dL_part_2 (v := 0) (by decide) ?_
  refine pw_aload_n dL_part_3 rfl ?_
  refine pw_iload_n dL_part_4 rfl ?_
  refine pw_iload_n dL_part_5 rfl ?_
  refine pw_iload_n dL_part_6 rfl ?_
  refine pw_tV dL_part_7 hc mi_X7_part mv_X7_part ml_L_30 sh_0 rfl rfl rfl rfl rfl rfl (fun Ex q => by cases q) (fun v q => ?_)
  cases q
  refine pw_i2l dL_part_10 ?_
  refine pw_last dL_part_11 sh_263 (vpin (n := 0) (N := 1) (by decide) (by decide)) (k := 0) rfl ?_
  refine pw_goto dL_part_12 (tgt := 27) (by decide) ?_
  refine pw_iconst dL_part_27 (v := 0) (by decide) ?_
  exact pw_iretF dL_part_28 rfl rfl rfl rfl rfl

set_option maxRecDepth 100000 in
set_option maxHeartbeats 4000000 in
theorem sp_L_part_x1 {l : Launch} {G : GC} {ad : Nat → Nat} {h h1 : HP} {x0 x1 x2 : Int32} (hc : PT l G yX7_part (.code yX7_part cX7_part 4 ((Option.some FieldType.int))) { frames := 8, cells := 3, slots := 18, locals := 132 } [.ref (ad 0), .int x0, .int x1, .int x2] SW ad h (.inr "java/lang/IndexOutOfBoundsException") h1) : PMA l G yL_part (.codeWith yL_part cL_part 6 (some .int) [(0, 12, 15, 25), (0, 12, 19, 34), (0, 12, 23, 13)]) { frames := 9, cells := 3, slots := 18, locals := 155 } [.ref (ad 0), .int x0, .int x1, .int x2, .ref (ad 263)] SW ad h (gR SW ad (some (.int 1)) (h1)) gNo := by
  refine PMW.mk (L0 := [some (.ref (ad 0)), some (.int x0), some (.int x1), some (.int x2), some (.ref (ad 263)), none]) RL "part" 3 18 (by decide +kernel) rfl rfl ⟨rfl, rfl⟩ (by simp [Value.category]) (Nat.le_of_ble_eq_true rfl) rfl ?_
  refine pw_aload dL_part_0 rfl ?_
  refine pw_iconst dL_part_2 (v := 0) (by decide) ?_
  refine pw_aload_n dL_part_3 rfl ?_
  refine pw_iload_n dL_part_4 rfl ?_
  refine pw_iload_n dL_part_5 rfl ?_
  refine pw_iload_n dL_part_6 rfl ?_
  refine pw_tV dL_part_7 hc mi_X7_part mv_X7_part ml_L_30 sh_0 rfl rfl rfl rfl rfl rfl (fun Ex q => ?_) (fun v q => by cases q)
  cases q
  refine px_catch (pre := []) (suf := [(0, 12, 19, 34), (0, 12, 23, 13)]) (x := (0, 12, 15, 25)) rfl (fun _ _ _ _ h9 => h9.2) (fun z hz => by cases hz) (by decide) (by decide) cl_L_25 ca_IOB (fun q => ?_)
  refine pw_astore dL_part_15 (by decide) rfl ?_
  refine pw_iconst dL_part_17 (v := 1) (by decide) ?_
  exact pw_iretF dL_part_18 rfl rfl rfl rfl rfl

set_option maxRecDepth 100000 in
set_option maxHeartbeats 4000000 in
theorem sp_L_part_x2 {l : Launch} {G : GC} {ad : Nat → Nat} {h h1 : HP} {x0 x1 x2 : Int32} (hc : PT l G yX7_part (.code yX7_part cX7_part 4 ((Option.some FieldType.int))) { frames := 8, cells := 3, slots := 18, locals := 132 } [.ref (ad 0), .int x0, .int x1, .int x2] SW ad h (.inr "java/util/NoSuchElementException") h1) : PMA l G yL_part (.codeWith yL_part cL_part 6 (some .int) [(0, 12, 15, 25), (0, 12, 19, 34), (0, 12, 23, 13)]) { frames := 9, cells := 3, slots := 18, locals := 155 } [.ref (ad 0), .int x0, .int x1, .int x2, .ref (ad 263)] SW ad h (gR SW ad (some (.int 2)) (h1)) gNo := by
  refine PMW.mk (L0 := [some (.ref (ad 0)), some (.int x0), some (.int x1), some (.int x2), some (.ref (ad 263)), none]) RL "part" 3 18 (by decide +kernel) rfl rfl ⟨rfl, rfl⟩ (by simp [Value.category]) (Nat.le_of_ble_eq_true rfl) rfl ?_
  refine pw_aload dL_part_0 rfl ?_
  refine pw_iconst dL_part_2 (v := 0) (by decide) ?_
  refine pw_aload_n dL_part_3 rfl ?_
  refine pw_iload_n dL_part_4 rfl ?_
  refine pw_iload_n dL_part_5 rfl ?_
  refine pw_iload_n dL_part_6 rfl ?_
  refine pw_tV dL_part_7 hc mi_X7_part mv_X7_part ml_L_30 sh_0 rfl rfl rfl rfl rfl rfl (fun Ex q => ?_) (fun v q => by cases q)
  cases q
  refine px_catch (pre := [(0, 12, 15, 25)]) (suf := [(0, 12, 23, 13)]) (x := (0, 12, 19, 34)) rfl (fun _ _ _ _ h9 => h9.2) (fun z hz => by
    rcases List.mem_cons.mp hz with rfl | hz
    · exact ⟨by decide, _, cl_L_25, by decide⟩
    cases hz) (by decide) (by decide) cl_L_34 ca_NSE (fun q => ?_)
  refine pw_astore dL_part_19 (by decide) rfl ?_
  refine pw_iconst dL_part_21 (v := 2) (by decide) ?_
  exact pw_iretF dL_part_22 rfl rfl rfl rfl rfl

set_option maxRecDepth 100000 in
set_option maxHeartbeats 4000000 in
theorem sp_L_part_x3 {l : Launch} {G : GC} {ad : Nat → Nat} {h h1 : HP} {x0 x1 x2 : Int32} (hc : PT l G yX7_part (.code yX7_part cX7_part 4 ((Option.some FieldType.int))) { frames := 8, cells := 3, slots := 18, locals := 132 } [.ref (ad 0), .int x0, .int x1, .int x2] SW ad h (.inr "java/lang/IllegalArgumentException") h1) : PMA l G yL_part (.codeWith yL_part cL_part 6 (some .int) [(0, 12, 15, 25), (0, 12, 19, 34), (0, 12, 23, 13)]) { frames := 9, cells := 3, slots := 18, locals := 155 } [.ref (ad 0), .int x0, .int x1, .int x2, .ref (ad 263)] SW ad h (gR SW ad (some (.int 3)) (h1)) gNo := by
  refine PMW.mk (L0 := [some (.ref (ad 0)), some (.int x0), some (.int x1), some (.int x2), some (.ref (ad 263)), none]) RL "part" 3 18 (by decide +kernel) rfl rfl ⟨rfl, rfl⟩ (by simp [Value.category]) (Nat.le_of_ble_eq_true rfl) rfl ?_
  refine pw_aload dL_part_0 rfl ?_
  refine pw_iconst dL_part_2 (v := 0) (by decide) ?_
  refine pw_aload_n dL_part_3 rfl ?_
  refine pw_iload_n dL_part_4 rfl ?_
  refine pw_iload_n dL_part_5 rfl ?_
  refine pw_iload_n dL_part_6 rfl ?_
  refine pw_tV dL_part_7 hc mi_X7_part mv_X7_part ml_L_30 sh_0 rfl rfl rfl rfl rfl rfl (fun Ex q => ?_) (fun v q => by cases q)
  cases q
  refine px_catch (pre := [(0, 12, 15, 25), (0, 12, 19, 34)]) (suf := []) (x := (0, 12, 23, 13)) rfl (fun _ _ _ _ h9 => h9.2) (fun z hz => by
    rcases List.mem_cons.mp hz with rfl | hz
    · exact ⟨by decide, _, cl_L_25, by decide⟩
    rcases List.mem_cons.mp hz with rfl | hz
    · exact ⟨by decide, _, cl_L_34, by decide⟩
    cases hz) (by decide) (by decide) cl_L_13 ca_IAE (fun q => ?_)
  refine pw_astore dL_part_23 (by decide) rfl ?_
  refine pw_iconst dL_part_25 (v := 3) (by decide) ?_
  exact pw_iretF dL_part_26 rfl rfl rfl rfl rfl

set_option maxRecDepth 100000 in
set_option maxHeartbeats 4000000 in
theorem sp_L_reason_ok {l : Launch} {G : GC} {ad : Nat → Nat} {h h1 : HP} {z : Int32} (hc : PT l G yX7_reason (.code yX7_reason cX7_reason 1 ((Option.some FieldType.int))) { frames := 6, cells := 1, slots := 6, locals := 90 } [.ref (ad 0)] SW ad h (.inl (some (.int z))) h1) : PMA l G yL_reason (.codeWith yL_reason cL_reason 3 (some .int) [(0, 8, 11, 34)]) { frames := 7, cells := 1, slots := 6, locals := 110 } [.ref (ad 0), .ref (ad 263)] SW ad h (gR SW ad (some (.int 0)) (hput h1 263 0 z)) gNo := by
  refine PMW.mk (L0 := [some (.ref (ad 0)), some (.ref (ad 263)), none]) RL "reason" 1 6 (by decide +kernel) rfl rfl ⟨rfl, rfl⟩ (by simp [Value.category]) (Nat.le_of_ble_eq_true rfl) rfl ?_
  refine pw_aload_n dL_reason_0 rfl ?_
  refine pw_iconst dL_reason_1 (v := 0) (by decide) ?_
  refine pw_aload_n dL_reason_2 rfl ?_
  refine pw_tV dL_reason_3 hc mi_X7_reason mv_X7_reason ml_L_60 sh_0 rfl rfl rfl rfl rfl rfl (fun Ex q => by cases q) (fun v q => ?_)
  cases q
  refine pw_i2l dL_reason_6 ?_
  refine pw_last dL_reason_7 sh_263 (vpin (n := 0) (N := 1) (by decide) (by decide)) (k := 0) rfl ?_
  refine pw_goto dL_reason_8 (tgt := 14) (by decide) ?_
  refine pw_iconst dL_reason_14 (v := 0) (by decide) ?_
  exact pw_iretF dL_reason_15 rfl rfl rfl rfl rfl

set_option maxRecDepth 100000 in
set_option maxHeartbeats 4000000 in
theorem sp_L_reason_x1 {l : Launch} {G : GC} {ad : Nat → Nat} {h h1 : HP} (hc : PT l G yX7_reason (.code yX7_reason cX7_reason 1 ((Option.some FieldType.int))) { frames := 6, cells := 1, slots := 6, locals := 90 } [.ref (ad 0)] SW ad h (.inr "java/util/NoSuchElementException") h1) : PMA l G yL_reason (.codeWith yL_reason cL_reason 3 (some .int) [(0, 8, 11, 34)]) { frames := 7, cells := 1, slots := 6, locals := 110 } [.ref (ad 0), .ref (ad 263)] SW ad h (gR SW ad (some (.int 1)) (h1)) gNo := by
  refine PMW.mk (L0 := [some (.ref (ad 0)), some (.ref (ad 263)), none]) RL "reason" 1 6 (by decide +kernel) rfl rfl ⟨rfl, rfl⟩ (by simp [Value.category]) (Nat.le_of_ble_eq_true rfl) rfl ?_
  refine pw_aload_n dL_reason_0 rfl ?_
  refine pw_iconst dL_reason_1 (v := 0) (by decide) ?_
  refine pw_aload_n dL_reason_2 rfl ?_
  refine pw_tV dL_reason_3 hc mi_X7_reason mv_X7_reason ml_L_60 sh_0 rfl rfl rfl rfl rfl rfl (fun Ex q => ?_) (fun v q => by cases q)
  cases q
  refine px_catch (pre := []) (suf := []) (x := (0, 8, 11, 34)) rfl (fun _ _ _ _ h9 => h9.2) (fun z hz => by cases hz) (by decide) (by decide) cl_L_34 ca_NSE (fun q => ?_)
  refine pw_astore_n dL_reason_11 (by decide) rfl ?_
  refine pw_iconst dL_reason_12 (v := 1) (by decide) ?_
  exact pw_iretF dL_reason_13 rfl rfl rfl rfl rfl

set_option maxRecDepth 100000 in
set_option maxHeartbeats 4000000 in
theorem sp_L_recalled_ok {l : Launch} {G : GC} {ad : Nat → Nat} {h h1 : HP} {z : Int32} {x0 : Int32} (hc : PT l G yX7_recalled (.code yX7_recalled cX7_recalled 2 ((Option.some FieldType.int))) { frames := 8, cells := 1, slots := 6, locals := 135 } [.ref (ad 0), .int x0] SW ad h (.inl (some (.int z))) h1) : PMA l G yL_recalled (.codeWith yL_recalled cL_recalled 4 (some .int) [(0, 9, 12, 25)]) { frames := 9, cells := 1, slots := 6, locals := 156 } [.ref (ad 0), .int x0, .ref (ad 263)] SW ad h (gR SW ad (some (.int 0)) (hput h1 263 0 z)) gNo := by
  refine PMW.mk (L0 := [some (.ref (ad 0)), some (.int x0), some (.ref (ad 263)), none]) RL "recalled" 1 6 (by decide +kernel) rfl rfl ⟨rfl, rfl⟩ (by simp [Value.category]) (Nat.le_of_ble_eq_true rfl) rfl ?_
  refine pw_aload_n dL_recalled_0 rfl ?_
  refine pw_iconst dL_recalled_1 (v := 0) (by decide) ?_
  refine pw_aload_n dL_recalled_2 rfl ?_
  refine pw_iload_n dL_recalled_3 rfl ?_
  refine pw_tV dL_recalled_4 hc mi_X7_recalled mv_X7_recalled ml_L_82 sh_0 rfl rfl rfl rfl rfl rfl (fun Ex q => by cases q) (fun v q => ?_)
  cases q
  refine pw_i2l dL_recalled_7 ?_
  refine pw_last dL_recalled_8 sh_263 (vpin (n := 0) (N := 1) (by decide) (by decide)) (k := 0) rfl ?_
  refine pw_goto dL_recalled_9 (tgt := 15) (by decide) ?_
  refine pw_iconst dL_recalled_15 (v := 0) (by decide) ?_
  exact pw_iretF dL_recalled_16 rfl rfl rfl rfl rfl

set_option maxRecDepth 100000 in
set_option maxHeartbeats 4000000 in
theorem sp_L_recalled_x1 {l : Launch} {G : GC} {ad : Nat → Nat} {h h1 : HP} {x0 : Int32} (hc : PT l G yX7_recalled (.code yX7_recalled cX7_recalled 2 ((Option.some FieldType.int))) { frames := 8, cells := 1, slots := 6, locals := 135 } [.ref (ad 0), .int x0] SW ad h (.inr "java/lang/IndexOutOfBoundsException") h1) : PMA l G yL_recalled (.codeWith yL_recalled cL_recalled 4 (some .int) [(0, 9, 12, 25)]) { frames := 9, cells := 1, slots := 6, locals := 156 } [.ref (ad 0), .int x0, .ref (ad 263)] SW ad h (gR SW ad (some (.int 1)) (h1)) gNo := by
  refine PMW.mk (L0 := [some (.ref (ad 0)), some (.int x0), some (.ref (ad 263)), none]) RL "recalled" 1 6 (by decide +kernel) rfl rfl ⟨rfl, rfl⟩ (by simp [Value.category]) (Nat.le_of_ble_eq_true rfl) rfl ?_
  refine pw_aload_n dL_recalled_0 rfl ?_
  refine pw_iconst dL_recalled_1 (v := 0) (by decide) ?_
  refine pw_aload_n dL_recalled_2 rfl ?_
  refine pw_iload_n dL_recalled_3 rfl ?_
  refine pw_tV dL_recalled_4 hc mi_X7_recalled mv_X7_recalled ml_L_82 sh_0 rfl rfl rfl rfl rfl rfl (fun Ex q => ?_) (fun v q => by cases q)
  cases q
  refine px_catch (pre := []) (suf := []) (x := (0, 9, 12, 25)) rfl (fun _ _ _ _ h9 => h9.2) (fun z hz => by cases hz) (by decide) (by decide) cl_L_25 ca_IOB (fun q => ?_)
  refine pw_astore_n dL_recalled_12 (by decide) rfl ?_
  refine pw_iconst dL_recalled_13 (v := 1) (by decide) ?_
  exact pw_iretF dL_recalled_14 rfl rfl rfl rfl rfl

set_option maxRecDepth 100000 in
set_option maxHeartbeats 4000000 in
theorem sp_L_recalledAgain_ok {l : Launch} {G : GC} {ad : Nat → Nat} {h h1 : HP} {z : Int32} {x0 : Int32} (hc : PT l G yX7_recalledAgain (.code yX7_recalledAgain cX7_recalledAgain 5 ((Option.some FieldType.int))) { frames := 8, cells := 1, slots := 6, locals := 132 } [.ref (ad 0), .int x0] SW ad h (.inl (some (.int z))) h1) : PMA l G yL_recalledAgain (.codeWith yL_recalledAgain cL_recalledAgain 4 (some .int) [(0, 9, 12, 25)]) { frames := 9, cells := 1, slots := 6, locals := 156 } [.ref (ad 0), .int x0, .ref (ad 263)] SW ad h (gR SW ad (some (.int 0)) (hput h1 263 0 z)) gNo := by
  refine PMW.mk (L0 := [some (.ref (ad 0)), some (.int x0), some (.ref (ad 263)), none]) RL "recalledAgain" 1 6 (by decide +kernel) rfl rfl ⟨rfl, rfl⟩ (by simp [Value.category]) (Nat.le_of_ble_eq_true rfl) rfl ?_
  refine pw_aload_n dL_recalledAgain_0 rfl ?_
  refine pw_iconst dL_recalledAgain_1 (v := 0) (by decide) ?_
  refine pw_aload_n dL_recalledAgain_2 rfl ?_
  refine pw_iload_n dL_recalledAgain_3 rfl ?_
  refine pw_tV dL_recalledAgain_4 hc mi_X7_recalledAgain mv_X7_recalledAgain ml_L_85 sh_0 rfl rfl rfl rfl rfl rfl (fun Ex q => by cases q) (fun v q => ?_)
  cases q
  refine pw_i2l dL_recalledAgain_7 ?_
  refine pw_last dL_recalledAgain_8 sh_263 (vpin (n := 0) (N := 1) (by decide) (by decide)) (k := 0) rfl ?_
  refine pw_goto dL_recalledAgain_9 (tgt := 15) (by decide) ?_
  refine pw_iconst dL_recalledAgain_15 (v := 0) (by decide) ?_
  exact pw_iretF dL_recalledAgain_16 rfl rfl rfl rfl rfl

set_option maxRecDepth 100000 in
set_option maxHeartbeats 4000000 in
theorem sp_L_recalledAgain_x1 {l : Launch} {G : GC} {ad : Nat → Nat} {h h1 : HP} {x0 : Int32} (hc : PT l G yX7_recalledAgain (.code yX7_recalledAgain cX7_recalledAgain 5 ((Option.some FieldType.int))) { frames := 8, cells := 1, slots := 6, locals := 132 } [.ref (ad 0), .int x0] SW ad h (.inr "java/lang/IndexOutOfBoundsException") h1) : PMA l G yL_recalledAgain (.codeWith yL_recalledAgain cL_recalledAgain 4 (some .int) [(0, 9, 12, 25)]) { frames := 9, cells := 1, slots := 6, locals := 156 } [.ref (ad 0), .int x0, .ref (ad 263)] SW ad h (gR SW ad (some (.int 1)) (h1)) gNo := by
  refine PMW.mk (L0 := [some (.ref (ad 0)), some (.int x0), some (.ref (ad 263)), none]) RL "recalledAgain" 1 6 (by decide +kernel) rfl rfl ⟨rfl, rfl⟩ (by simp [Value.category]) (Nat.le_of_ble_eq_true rfl) rfl ?_
  refine pw_aload_n dL_recalledAgain_0 rfl ?_
  refine pw_iconst dL_recalledAgain_1 (v := 0) (by decide) ?_
  refine pw_aload_n dL_recalledAgain_2 rfl ?_
  refine pw_iload_n dL_recalledAgain_3 rfl ?_
  refine pw_tV dL_recalledAgain_4 hc mi_X7_recalledAgain mv_X7_recalledAgain ml_L_85 sh_0 rfl rfl rfl rfl rfl rfl (fun Ex q => ?_) (fun v q => by cases q)
  cases q
  refine px_catch (pre := []) (suf := []) (x := (0, 9, 12, 25)) rfl (fun _ _ _ _ h9 => h9.2) (fun z hz => by cases hz) (by decide) (by decide) cl_L_25 ca_IOB (fun q => ?_)
  refine pw_astore_n dL_recalledAgain_12 (by decide) rfl ?_
  refine pw_iconst dL_recalledAgain_13 (v := 1) (by decide) ?_
  exact pw_iretF dL_recalledAgain_14 rfl rfl rfl rfl rfl

set_option maxRecDepth 100000 in
set_option maxHeartbeats 4000000 in
theorem sp_L_restore_ok {l : Launch} {G : GC} {ad : Nat → Nat} {h h1 : HP} {z : Int32} (hc : PT l G yX7_restore (.code yX7_restore cX7_restore 1 ((Option.some FieldType.int))) { frames := 6, cells := 1, slots := 6, locals := 103 } [.ref (ad 0)] SW ad h (.inl (some (.int z))) h1) : PMA l G yL_restore (.codeWith yL_restore cL_restore 3 (some .int) [(0, 8, 11, 15)]) { frames := 7, cells := 1, slots := 6, locals := 123 } [.ref (ad 0), .ref (ad 263)] SW ad h (gR SW ad (some (.int 0)) (hput h1 263 0 z)) gNo := by
  refine PMW.mk (L0 := [some (.ref (ad 0)), some (.ref (ad 263)), none]) RL "restore" 1 6 (by decide +kernel) rfl rfl ⟨rfl, rfl⟩ (by simp [Value.category]) (Nat.le_of_ble_eq_true rfl) rfl ?_
  refine pw_aload_n dL_restore_0 rfl ?_
  refine pw_iconst dL_restore_1 (v := 0) (by decide) ?_
  refine pw_aload_n dL_restore_2 rfl ?_
  refine pw_tV dL_restore_3 hc mi_X7_restore mv_X7_restore ml_L_107 sh_0 rfl rfl rfl rfl rfl rfl (fun Ex q => by cases q) (fun v q => ?_)
  cases q
  refine pw_i2l dL_restore_6 ?_
  refine pw_last dL_restore_7 sh_263 (vpin (n := 0) (N := 1) (by decide) (by decide)) (k := 0) rfl ?_
  refine pw_goto dL_restore_8 (tgt := 14) (by decide) ?_
  refine pw_iconst dL_restore_14 (v := 0) (by decide) ?_
  exact pw_iretF dL_restore_15 rfl rfl rfl rfl rfl

set_option maxRecDepth 100000 in
set_option maxHeartbeats 4000000 in
theorem sp_L_restore_x1 {l : Launch} {G : GC} {ad : Nat → Nat} {h h1 : HP} (hc : PT l G yX7_restore (.code yX7_restore cX7_restore 1 ((Option.some FieldType.int))) { frames := 6, cells := 1, slots := 6, locals := 103 } [.ref (ad 0)] SW ad h (.inr "java/lang/IllegalStateException") h1) : PMA l G yL_restore (.codeWith yL_restore cL_restore 3 (some .int) [(0, 8, 11, 15)]) { frames := 7, cells := 1, slots := 6, locals := 123 } [.ref (ad 0), .ref (ad 263)] SW ad h (gR SW ad (some (.int 1)) (h1)) gNo := by
  refine PMW.mk (L0 := [some (.ref (ad 0)), some (.ref (ad 263)), none]) RL "restore" 1 6 (by decide +kernel) rfl rfl ⟨rfl, rfl⟩ (by simp [Value.category]) (Nat.le_of_ble_eq_true rfl) rfl ?_
  refine pw_aload_n dL_restore_0 rfl ?_
  refine pw_iconst dL_restore_1 (v := 0) (by decide) ?_
  refine pw_aload_n dL_restore_2 rfl ?_
  refine pw_tV dL_restore_3 hc mi_X7_restore mv_X7_restore ml_L_107 sh_0 rfl rfl rfl rfl rfl rfl (fun Ex q => ?_) (fun v q => by cases q)
  cases q
  refine px_catch (pre := []) (suf := []) (x := (0, 8, 11, 15)) rfl (fun _ _ _ _ h9 => h9.2) (fun z hz => by cases hz) (by decide) (by decide) cl_L_15 ca_ISE (fun q => ?_)
  refine pw_astore_n dL_restore_11 (by decide) rfl ?_
  refine pw_iconst dL_restore_12 (v := 1) (by decide) ?_
  exact pw_iretF dL_restore_13 rfl rfl rfl rfl rfl

set_option maxRecDepth 100000 in
set_option maxHeartbeats 4000000 in
theorem sp_L_serve_ok {l : Launch} {G : GC} {ad : Nat → Nat} {h h1 : HP} {z : Int32} {x0 : Int32} (hc : PT l G yX7_serve (.code yX7_serve cX7_serve 4 ((Option.some FieldType.int))) { frames := 7, cells := 1, slots := 6, locals := 125 } [.ref (ad 0), .int x0] SW ad h (.inl (some (.int z))) h1) : PMA l G yL_serve (.codeWith yL_serve cL_serve 4 (some .int) [(0, 9, 12, 25)]) { frames := 8, cells := 1, slots := 6, locals := 148 } [.ref (ad 0), .int x0, .ref (ad 263)] SW ad h (gR SW ad (some (.int 0)) (hput h1 263 0 z)) gNo := by
  refine PMW.mk (L0 := [some (.ref (ad 0)), some (.int x0), some (.ref (ad 263)), none]) RL "serve" 1 6 (by decide +kernel) rfl rfl ⟨rfl, rfl⟩ (by simp [Value.category]) (Nat.le_of_ble_eq_true rfl) rfl ?_
  refine pw_aload_n dL_serve_0 rfl ?_
  refine pw_iconst dL_serve_1 (v := 0) (by decide) ?_
  refine pw_aload_n dL_serve_2 rfl ?_
  refine pw_iload_n dL_serve_3 rfl ?_
  refine pw_tV dL_serve_4 hc mi_X7_serve mv_X7_serve ml_L_70 sh_0 rfl rfl rfl rfl rfl rfl (fun Ex q => by cases q) (fun v q => ?_)
  cases q
  refine pw_i2l dL_serve_7 ?_
  refine pw_last dL_serve_8 sh_263 (vpin (n := 0) (N := 1) (by decide) (by decide)) (k := 0) rfl ?_
  refine pw_goto dL_serve_9 (tgt := 15) (by decide) ?_
  refine pw_iconst dL_serve_15 (v := 0) (by decide) ?_
  exact pw_iretF dL_serve_16 rfl rfl rfl rfl rfl

set_option maxRecDepth 100000 in
set_option maxHeartbeats 4000000 in
theorem sp_L_serve_x1 {l : Launch} {G : GC} {ad : Nat → Nat} {h h1 : HP} {x0 : Int32} (hc : PT l G yX7_serve (.code yX7_serve cX7_serve 4 ((Option.some FieldType.int))) { frames := 7, cells := 1, slots := 6, locals := 125 } [.ref (ad 0), .int x0] SW ad h (.inr "java/lang/IndexOutOfBoundsException") h1) : PMA l G yL_serve (.codeWith yL_serve cL_serve 4 (some .int) [(0, 9, 12, 25)]) { frames := 8, cells := 1, slots := 6, locals := 148 } [.ref (ad 0), .int x0, .ref (ad 263)] SW ad h (gR SW ad (some (.int 1)) (h1)) gNo := by
  refine PMW.mk (L0 := [some (.ref (ad 0)), some (.int x0), some (.ref (ad 263)), none]) RL "serve" 1 6 (by decide +kernel) rfl rfl ⟨rfl, rfl⟩ (by simp [Value.category]) (Nat.le_of_ble_eq_true rfl) rfl ?_
  refine pw_aload_n dL_serve_0 rfl ?_
  refine pw_iconst dL_serve_1 (v := 0) (by decide) ?_
  refine pw_aload_n dL_serve_2 rfl ?_
  refine pw_iload_n dL_serve_3 rfl ?_
  refine pw_tV dL_serve_4 hc mi_X7_serve mv_X7_serve ml_L_70 sh_0 rfl rfl rfl rfl rfl rfl (fun Ex q => ?_) (fun v q => by cases q)
  cases q
  refine px_catch (pre := []) (suf := []) (x := (0, 9, 12, 25)) rfl (fun _ _ _ _ h9 => h9.2) (fun z hz => by cases hz) (by decide) (by decide) cl_L_25 ca_IOB (fun q => ?_)
  refine pw_astore_n dL_serve_12 (by decide) rfl ?_
  refine pw_iconst dL_serve_13 (v := 1) (by decide) ?_
  exact pw_iretF dL_serve_14 rfl rfl rfl rfl rfl

set_option maxRecDepth 100000 in
set_option maxHeartbeats 4000000 in
theorem sp_L_setLaw_ok {l : Launch} {G : GC} {ad : Nat → Nat} {h h1 : HP} {z : Int32} {x0 x1 : Int32} (hc : PT l G yX7_setLaw (.code yX7_setLaw cX7_setLaw 4 ((Option.some FieldType.int))) { frames := 7, cells := 2, slots := 12, locals := 125 } [.ref (ad 0), .int x0, .int x1] SW ad h (.inl (some (.int z))) h1) : PMA l G yL_setLaw (.codeWith yL_setLaw cL_setLaw 5 (some .int) [(0, 10, 13, 25), (0, 10, 17, 13)]) { frames := 8, cells := 2, slots := 12, locals := 148 } [.ref (ad 0), .int x0, .int x1, .ref (ad 263)] SW ad h (gR SW ad (some (.int 0)) (hput h1 263 0 z)) gNo := by
  refine PMW.mk (L0 := [some (.ref (ad 0)), some (.int x0), some (.int x1), some (.ref (ad 263)), none]) RL "setLaw" 2 12 (by decide +kernel) rfl rfl ⟨rfl, rfl⟩ (by simp [Value.category]) (Nat.le_of_ble_eq_true rfl) rfl ?_
  refine pw_aload_n dL_setLaw_0 rfl ?_
  refine pw_iconst dL_setLaw_1 (v := 0) (by decide) ?_
  refine pw_aload_n dL_setLaw_2 rfl ?_
  refine pw_iload_n dL_setLaw_3 rfl ?_
  refine pw_iload_n dL_setLaw_4 rfl ?_
  refine pw_tV dL_setLaw_5 hc mi_X7_setLaw mv_X7_setLaw ml_L_46 sh_0 rfl rfl rfl rfl rfl rfl (fun Ex q => by cases q) (fun v q => ?_)
  cases q
  refine pw_i2l dL_setLaw_8 ?_
  refine pw_last dL_setLaw_9 sh_263 (vpin (n := 0) (N := 1) (by decide) (by decide)) (k := 0) rfl ?_
  refine pw_goto dL_setLaw_10 (tgt := 21) (by decide) ?_
  refine pw_iconst dL_setLaw_21 (v := 0) (by decide) ?_
  exact pw_iretF dL_setLaw_22 rfl rfl rfl rfl rfl

set_option maxRecDepth 100000 in
set_option maxHeartbeats 4000000 in
theorem sp_L_setLaw_x1 {l : Launch} {G : GC} {ad : Nat → Nat} {h h1 : HP} {x0 x1 : Int32} (hc : PT l G yX7_setLaw (.code yX7_setLaw cX7_setLaw 4 ((Option.some FieldType.int))) { frames := 7, cells := 2, slots := 12, locals := 125 } [.ref (ad 0), .int x0, .int x1] SW ad h (.inr "java/lang/IndexOutOfBoundsException") h1) : PMA l G yL_setLaw (.codeWith yL_setLaw cL_setLaw 5 (some .int) [(0, 10, 13, 25), (0, 10, 17, 13)]) { frames := 8, cells := 2, slots := 12, locals := 148 } [.ref (ad 0), .int x0, .int x1, .ref (ad 263)] SW ad h (gR SW ad (some (.int 1)) (h1)) gNo := by
  refine PMW.mk (L0 := [some (.ref (ad 0)), some (.int x0), some (.int x1), some (.ref (ad 263)), none]) RL "setLaw" 2 12 (by decide +kernel) rfl rfl ⟨rfl, rfl⟩ (by simp [Value.category]) (Nat.le_of_ble_eq_true rfl) rfl ?_
  refine pw_aload_n dL_setLaw_0 rfl ?_
  refine pw_iconst dL_setLaw_1 (v := 0) (by decide) ?_
  refine pw_aload_n dL_setLaw_2 rfl ?_
  refine pw_iload_n dL_setLaw_3 rfl ?_
  refine pw_iload_n dL_setLaw_4 rfl ?_
  refine pw_tV dL_setLaw_5 hc mi_X7_setLaw mv_X7_setLaw ml_L_46 sh_0 rfl rfl rfl rfl rfl rfl (fun Ex q => ?_) (fun v q => by cases q)
  cases q
  refine px_catch (pre := []) (suf := [(0, 10, 17, 13)]) (x := (0, 10, 13, 25)) rfl (fun _ _ _ _ h9 => h9.2) (fun z hz => by cases hz) (by decide) (by decide) cl_L_25 ca_IOB (fun q => ?_)
  refine pw_astore dL_setLaw_13 (by decide) rfl ?_
  refine pw_iconst dL_setLaw_15 (v := 1) (by decide) ?_
  exact pw_iretF dL_setLaw_16 rfl rfl rfl rfl rfl

set_option maxRecDepth 100000 in
set_option maxHeartbeats 4000000 in
theorem sp_L_setLaw_x2 {l : Launch} {G : GC} {ad : Nat → Nat} {h h1 : HP} {x0 x1 : Int32} (hc : PT l G yX7_setLaw (.code yX7_setLaw cX7_setLaw 4 ((Option.some FieldType.int))) { frames := 7, cells := 2, slots := 12, locals := 125 } [.ref (ad 0), .int x0, .int x1] SW ad h (.inr "java/lang/IllegalArgumentException") h1) : PMA l G yL_setLaw (.codeWith yL_setLaw cL_setLaw 5 (some .int) [(0, 10, 13, 25), (0, 10, 17, 13)]) { frames := 8, cells := 2, slots := 12, locals := 148 } [.ref (ad 0), .int x0, .int x1, .ref (ad 263)] SW ad h (gR SW ad (some (.int 2)) (h1)) gNo := by
  refine PMW.mk (L0 := [some (.ref (ad 0)), some (.int x0), some (.int x1), some (.ref (ad 263)), none]) RL "setLaw" 2 12 (by decide +kernel) rfl rfl ⟨rfl, rfl⟩ (by simp [Value.category]) (Nat.le_of_ble_eq_true rfl) rfl ?_
  refine pw_aload_n dL_setLaw_0 rfl ?_
  refine pw_iconst dL_setLaw_1 (v := 0) (by decide) ?_
  refine pw_aload_n dL_setLaw_2 rfl ?_
  refine pw_iload_n dL_setLaw_3 rfl ?_
  refine pw_iload_n dL_setLaw_4 rfl ?_
  refine pw_tV dL_setLaw_5 hc mi_X7_setLaw mv_X7_setLaw ml_L_46 sh_0 rfl rfl rfl rfl rfl rfl (fun Ex q => ?_) (fun v q => by cases q)
  cases q
  refine px_catch (pre := [(0, 10, 13, 25)]) (suf := []) (x := (0, 10, 17, 13)) rfl (fun _ _ _ _ h9 => h9.2) (fun z hz => by
    rcases List.mem_cons.mp hz with rfl | hz
    · exact ⟨by decide, _, cl_L_25, by decide⟩
    cases hz) (by decide) (by decide) cl_L_13 ca_IAE (fun q => ?_)
  refine pw_astore dL_setLaw_17 (by decide) rfl ?_
  refine pw_iconst dL_setLaw_19 (v := 2) (by decide) ?_
  exact pw_iretF dL_setLaw_20 rfl rfl rfl rfl rfl

set_option maxRecDepth 100000 in
set_option maxHeartbeats 4000000 in
theorem sp_L_share_ok {l : Launch} {G : GC} {ad : Nat → Nat} {h h1 : HP} {z : Int32} {x0 x1 x2 : Int32} (hc : PT l G yX7_share (.code yX7_share cX7_share 4 ((Option.some FieldType.int))) { frames := 8, cells := 3, slots := 18, locals := 132 } [.ref (ad 0), .int x0, .int x1, .int x2] SW ad h (.inl (some (.int z))) h1) : PMA l G yL_share (.codeWith yL_share cL_share 6 (some .int) [(0, 12, 15, 25), (0, 12, 19, 13)]) { frames := 9, cells := 3, slots := 18, locals := 155 } [.ref (ad 0), .int x0, .int x1, .int x2, .ref (ad 263)] SW ad h (gR SW ad (some (.int 0)) (hput h1 263 0 z)) gNo := by
  refine PMW.mk (L0 := [some (.ref (ad 0)), some (.int x0), some (.int x1), some (.int x2), some (.ref (ad 263)), none]) RL "share" 3 18 (by decide +kernel) rfl rfl ⟨rfl, rfl⟩ (by simp [Value.category]) (Nat.le_of_ble_eq_true rfl) rfl ?_
  refine pw_aload dL_share_0 rfl ?_
  refine pw_iconst dL_share_2 (v := 0) (by decide) ?_
  refine pw_aload_n dL_share_3 rfl ?_
  refine pw_iload_n dL_share_4 rfl ?_
  refine pw_iload_n dL_share_5 rfl ?_
  refine pw_iload_n dL_share_6 rfl ?_
  refine pw_tV dL_share_7 hc mi_X7_share mv_X7_share ml_L_36 sh_0 rfl rfl rfl rfl rfl rfl (fun Ex q => by cases q) (fun v q => ?_)
  cases q
  refine pw_i2l dL_share_10 ?_
  refine pw_last dL_share_11 sh_263 (vpin (n := 0) (N := 1) (by decide) (by decide)) (k := 0) rfl ?_
  refine pw_goto dL_share_12 (tgt := 23) (by decide) ?_
  refine pw_iconst dL_share_23 (v := 0) (by decide) ?_
  exact pw_iretF dL_share_24 rfl rfl rfl rfl rfl

set_option maxRecDepth 100000 in
set_option maxHeartbeats 4000000 in
theorem sp_L_share_x1 {l : Launch} {G : GC} {ad : Nat → Nat} {h h1 : HP} {x0 x1 x2 : Int32} (hc : PT l G yX7_share (.code yX7_share cX7_share 4 ((Option.some FieldType.int))) { frames := 8, cells := 3, slots := 18, locals := 132 } [.ref (ad 0), .int x0, .int x1, .int x2] SW ad h (.inr "java/lang/IndexOutOfBoundsException") h1) : PMA l G yL_share (.codeWith yL_share cL_share 6 (some .int) [(0, 12, 15, 25), (0, 12, 19, 13)]) { frames := 9, cells := 3, slots := 18, locals := 155 } [.ref (ad 0), .int x0, .int x1, .int x2, .ref (ad 263)] SW ad h (gR SW ad (some (.int 1)) (h1)) gNo := by
  refine PMW.mk (L0 := [some (.ref (ad 0)), some (.int x0), some (.int x1), some (.int x2), some (.ref (ad 263)), none]) RL "share" 3 18 (by decide +kernel) rfl rfl ⟨rfl, rfl⟩ (by simp [Value.category]) (Nat.le_of_ble_eq_true rfl) rfl ?_
  refine pw_aload dL_share_0 rfl ?_
  refine pw_iconst dL_share_2 (v := 0) (by decide) ?_
  refine pw_aload_n dL_share_3 rfl ?_
  refine pw_iload_n dL_share_4 rfl ?_
  refine pw_iload_n dL_share_5 rfl ?_
  refine pw_iload_n dL_share_6 rfl ?_
  refine pw_tV dL_share_7 hc mi_X7_share mv_X7_share ml_L_36 sh_0 rfl rfl rfl rfl rfl rfl (fun Ex q => ?_) (fun v q => by cases q)
  cases q
  refine px_catch (pre := []) (suf := [(0, 12, 19, 13)]) (x := (0, 12, 15, 25)) rfl (fun _ _ _ _ h9 => h9.2) (fun z hz => by cases hz) (by decide) (by decide) cl_L_25 ca_IOB (fun q => ?_)
  refine pw_astore dL_share_15 (by decide) rfl ?_
  refine pw_iconst dL_share_17 (v := 1) (by decide) ?_
  exact pw_iretF dL_share_18 rfl rfl rfl rfl rfl

set_option maxRecDepth 100000 in
set_option maxHeartbeats 4000000 in
theorem sp_L_share_x2 {l : Launch} {G : GC} {ad : Nat → Nat} {h h1 : HP} {x0 x1 x2 : Int32} (hc : PT l G yX7_share (.code yX7_share cX7_share 4 ((Option.some FieldType.int))) { frames := 8, cells := 3, slots := 18, locals := 132 } [.ref (ad 0), .int x0, .int x1, .int x2] SW ad h (.inr "java/lang/IllegalArgumentException") h1) : PMA l G yL_share (.codeWith yL_share cL_share 6 (some .int) [(0, 12, 15, 25), (0, 12, 19, 13)]) { frames := 9, cells := 3, slots := 18, locals := 155 } [.ref (ad 0), .int x0, .int x1, .int x2, .ref (ad 263)] SW ad h (gR SW ad (some (.int 2)) (h1)) gNo := by
  refine PMW.mk (L0 := [some (.ref (ad 0)), some (.int x0), some (.int x1), some (.int x2), some (.ref (ad 263)), none]) RL "share" 3 18 (by decide +kernel) rfl rfl ⟨rfl, rfl⟩ (by simp [Value.category]) (Nat.le_of_ble_eq_true rfl) rfl ?_
  refine pw_aload dL_share_0 rfl ?_
  refine pw_iconst dL_share_2 (v := 0) (by decide) ?_
  refine pw_aload_n dL_share_3 rfl ?_
  refine pw_iload_n dL_share_4 rfl ?_
  refine pw_iload_n dL_share_5 rfl ?_
  refine pw_iload_n dL_share_6 rfl ?_
  refine pw_tV dL_share_7 hc mi_X7_share mv_X7_share ml_L_36 sh_0 rfl rfl rfl rfl rfl rfl (fun Ex q => ?_) (fun v q => by cases q)
  cases q
  refine px_catch (pre := [(0, 12, 15, 25)]) (suf := []) (x := (0, 12, 19, 13)) rfl (fun _ _ _ _ h9 => h9.2) (fun z hz => by
    rcases List.mem_cons.mp hz with rfl | hz
    · exact ⟨by decide, _, cl_L_25, by decide⟩
    cases hz) (by decide) (by decide) cl_L_13 ca_IAE (fun q => ?_)
  refine pw_astore dL_share_19 (by decide) rfl ?_
  refine pw_iconst dL_share_21 (v := 2) (by decide) ?_
  exact pw_iretF dL_share_22 rfl rfl rfl rfl rfl

set_option maxRecDepth 100000 in
set_option maxHeartbeats 4000000 in
theorem sp_L_spill_ok {l : Launch} {G : GC} {ad : Nat → Nat} {h h1 : HP} {z : Int32} {x0 x1 : Int32} (hc : PT l G yX7_spill (.code yX7_spill cX7_spill 3 ((Option.some FieldType.int))) { frames := 8, cells := 2, slots := 12, locals := 132 } [.ref (ad 0), .int x0, .int x1] SW ad h (.inl (some (.int z))) h1) : PMA l G yL_spill (.codeWith yL_spill cL_spill 5 (some .int) [(0, 10, 13, 25), (0, 10, 17, 13)]) { frames := 9, cells := 2, slots := 12, locals := 154 } [.ref (ad 0), .int x0, .int x1, .ref (ad 263)] SW ad h (gR SW ad (some (.int 0)) (hput h1 263 0 z)) gNo := by
  refine PMW.mk (L0 := [some (.ref (ad 0)), some (.int x0), some (.int x1), some (.ref (ad 263)), none]) RL "spill" 2 12 (by decide +kernel) rfl rfl ⟨rfl, rfl⟩ (by simp [Value.category]) (Nat.le_of_ble_eq_true rfl) rfl ?_
  refine pw_aload_n dL_spill_0 rfl ?_
  refine pw_iconst dL_spill_1 (v := 0) (by decide) ?_
  refine pw_aload_n dL_spill_2 rfl ?_
  refine pw_iload_n dL_spill_3 rfl ?_
  refine pw_iload_n dL_spill_4 rfl ?_
  refine pw_tV dL_spill_5 hc mi_X7_spill mv_X7_spill ml_L_21 sh_0 rfl rfl rfl rfl rfl rfl (fun Ex q => by cases q) (fun v q => ?_)
  cases q
  refine pw_i2l dL_spill_8 ?_
  refine pw_last dL_spill_9 sh_263 (vpin (n := 0) (N := 1) (by decide) (by decide)) (k := 0) rfl ?_
  refine pw_goto dL_spill_10 (tgt := 21) (by decide) ?_
  refine pw_iconst dL_spill_21 (v := 0) (by decide) ?_
  exact pw_iretF dL_spill_22 rfl rfl rfl rfl rfl

set_option maxRecDepth 100000 in
set_option maxHeartbeats 4000000 in
theorem sp_L_spill_x1 {l : Launch} {G : GC} {ad : Nat → Nat} {h h1 : HP} {x0 x1 : Int32} (hc : PT l G yX7_spill (.code yX7_spill cX7_spill 3 ((Option.some FieldType.int))) { frames := 8, cells := 2, slots := 12, locals := 132 } [.ref (ad 0), .int x0, .int x1] SW ad h (.inr "java/lang/IndexOutOfBoundsException") h1) : PMA l G yL_spill (.codeWith yL_spill cL_spill 5 (some .int) [(0, 10, 13, 25), (0, 10, 17, 13)]) { frames := 9, cells := 2, slots := 12, locals := 154 } [.ref (ad 0), .int x0, .int x1, .ref (ad 263)] SW ad h (gR SW ad (some (.int 1)) (h1)) gNo := by
  refine PMW.mk (L0 := [some (.ref (ad 0)), some (.int x0), some (.int x1), some (.ref (ad 263)), none]) RL "spill" 2 12 (by decide +kernel) rfl rfl ⟨rfl, rfl⟩ (by simp [Value.category]) (Nat.le_of_ble_eq_true rfl) rfl ?_
  refine pw_aload_n dL_spill_0 rfl ?_
  refine pw_iconst dL_spill_1 (v := 0) (by decide) ?_
  refine pw_aload_n dL_spill_2 rfl ?_
  refine pw_iload_n dL_spill_3 rfl ?_
  refine pw_iload_n dL_spill_4 rfl ?_
  refine pw_tV dL_spill_5 hc mi_X7_spill mv_X7_spill ml_L_21 sh_0 rfl rfl rfl rfl rfl rfl (fun Ex q => ?_) (fun v q => by cases q)
  cases q
  refine px_catch (pre := []) (suf := [(0, 10, 17, 13)]) (x := (0, 10, 13, 25)) rfl (fun _ _ _ _ h9 => h9.2) (fun z hz => by cases hz) (by decide) (by decide) cl_L_25 ca_IOB (fun q => ?_)
  refine pw_astore dL_spill_13 (by decide) rfl ?_
  refine pw_iconst dL_spill_15 (v := 1) (by decide) ?_
  exact pw_iretF dL_spill_16 rfl rfl rfl rfl rfl

set_option maxRecDepth 100000 in
set_option maxHeartbeats 4000000 in
theorem sp_L_spill_x2 {l : Launch} {G : GC} {ad : Nat → Nat} {h h1 : HP} {x0 x1 : Int32} (hc : PT l G yX7_spill (.code yX7_spill cX7_spill 3 ((Option.some FieldType.int))) { frames := 8, cells := 2, slots := 12, locals := 132 } [.ref (ad 0), .int x0, .int x1] SW ad h (.inr "java/lang/IllegalArgumentException") h1) : PMA l G yL_spill (.codeWith yL_spill cL_spill 5 (some .int) [(0, 10, 13, 25), (0, 10, 17, 13)]) { frames := 9, cells := 2, slots := 12, locals := 154 } [.ref (ad 0), .int x0, .int x1, .ref (ad 263)] SW ad h (gR SW ad (some (.int 2)) (h1)) gNo := by
  refine PMW.mk (L0 := [some (.ref (ad 0)), some (.int x0), some (.int x1), some (.ref (ad 263)), none]) RL "spill" 2 12 (by decide +kernel) rfl rfl ⟨rfl, rfl⟩ (by simp [Value.category]) (Nat.le_of_ble_eq_true rfl) rfl ?_
  refine pw_aload_n dL_spill_0 rfl ?_
  refine pw_iconst dL_spill_1 (v := 0) (by decide) ?_
  refine pw_aload_n dL_spill_2 rfl ?_
  refine pw_iload_n dL_spill_3 rfl ?_
  refine pw_iload_n dL_spill_4 rfl ?_
  refine pw_tV dL_spill_5 hc mi_X7_spill mv_X7_spill ml_L_21 sh_0 rfl rfl rfl rfl rfl rfl (fun Ex q => ?_) (fun v q => by cases q)
  cases q
  refine px_catch (pre := [(0, 10, 13, 25)]) (suf := []) (x := (0, 10, 17, 13)) rfl (fun _ _ _ _ h9 => h9.2) (fun z hz => by
    rcases List.mem_cons.mp hz with rfl | hz
    · exact ⟨by decide, _, cl_L_25, by decide⟩
    cases hz) (by decide) (by decide) cl_L_13 ca_IAE (fun q => ?_)
  refine pw_astore dL_spill_17 (by decide) rfl ?_
  refine pw_iconst dL_spill_19 (v := 2) (by decide) ?_
  exact pw_iretF dL_spill_20 rfl rfl rfl rfl rfl

set_option maxRecDepth 100000 in
set_option maxHeartbeats 4000000 in
theorem sp_L_undo_ok {l : Launch} {G : GC} {ad : Nat → Nat} {h h1 : HP} {z : Int32} (hc : PT l G yX7_undo (.code yX7_undo cX7_undo 1 ((Option.some FieldType.int))) { frames := 6, cells := 1, slots := 6, locals := 125 } [.ref (ad 0)] SW ad h (.inl (some (.int z))) h1) : PMA l G yL_undo (.codeWith yL_undo cL_undo 3 (some .int) [(0, 8, 11, 15)]) { frames := 7, cells := 1, slots := 6, locals := 145 } [.ref (ad 0), .ref (ad 263)] SW ad h (gR SW ad (some (.int 0)) (hput h1 263 0 z)) gNo := by
  refine PMW.mk (L0 := [some (.ref (ad 0)), some (.ref (ad 263)), none]) RL "undo" 1 6 (by decide +kernel) rfl rfl ⟨rfl, rfl⟩ (by simp [Value.category]) (Nat.le_of_ble_eq_true rfl) rfl ?_
  refine pw_aload_n dL_undo_0 rfl ?_
  refine pw_iconst dL_undo_1 (v := 0) (by decide) ?_
  refine pw_aload_n dL_undo_2 rfl ?_
  refine pw_tV dL_undo_3 hc mi_X7_undo mv_X7_undo ml_L_104 sh_0 rfl rfl rfl rfl rfl rfl (fun Ex q => by cases q) (fun v q => ?_)
  cases q
  refine pw_i2l dL_undo_6 ?_
  refine pw_last dL_undo_7 sh_263 (vpin (n := 0) (N := 1) (by decide) (by decide)) (k := 0) rfl ?_
  refine pw_goto dL_undo_8 (tgt := 14) (by decide) ?_
  refine pw_iconst dL_undo_14 (v := 0) (by decide) ?_
  exact pw_iretF dL_undo_15 rfl rfl rfl rfl rfl

set_option maxRecDepth 100000 in
set_option maxHeartbeats 4000000 in
theorem sp_L_undo_x1 {l : Launch} {G : GC} {ad : Nat → Nat} {h h1 : HP} (hc : PT l G yX7_undo (.code yX7_undo cX7_undo 1 ((Option.some FieldType.int))) { frames := 6, cells := 1, slots := 6, locals := 125 } [.ref (ad 0)] SW ad h (.inr "java/lang/IllegalStateException") h1) : PMA l G yL_undo (.codeWith yL_undo cL_undo 3 (some .int) [(0, 8, 11, 15)]) { frames := 7, cells := 1, slots := 6, locals := 145 } [.ref (ad 0), .ref (ad 263)] SW ad h (gR SW ad (some (.int 1)) (h1)) gNo := by
  refine PMW.mk (L0 := [some (.ref (ad 0)), some (.ref (ad 263)), none]) RL "undo" 1 6 (by decide +kernel) rfl rfl ⟨rfl, rfl⟩ (by simp [Value.category]) (Nat.le_of_ble_eq_true rfl) rfl ?_
  refine pw_aload_n dL_undo_0 rfl ?_
  refine pw_iconst dL_undo_1 (v := 0) (by decide) ?_
  refine pw_aload_n dL_undo_2 rfl ?_
  refine pw_tV dL_undo_3 hc mi_X7_undo mv_X7_undo ml_L_104 sh_0 rfl rfl rfl rfl rfl rfl (fun Ex q => ?_) (fun v q => by cases q)
  cases q
  refine px_catch (pre := []) (suf := []) (x := (0, 8, 11, 15)) rfl (fun _ _ _ _ h9 => h9.2) (fun z hz => by cases hz) (by decide) (by decide) cl_L_15 ca_ISE (fun q => ?_)
  refine pw_astore_n dL_undo_11 (by decide) rfl ?_
  refine pw_iconst dL_undo_12 (v := 1) (by decide) ?_
  exact pw_iretF dL_undo_13 rfl rfl rfl rfl rfl

set_option maxRecDepth 100000 in
set_option maxHeartbeats 4000000 in
theorem sp_L_ways_ok {l : Launch} {G : GC} {ad : Nat → Nat} {h h1 : HP} {z : Int32} {x0 x1 : Int32} (hc : PT l G yX7_ways (.code yX7_ways cX7_ways 3 ((Option.some FieldType.int))) { frames := 8, cells := 2, slots := 12, locals := 132 } [.ref (ad 0), .int x0, .int x1] SW ad h (.inl (some (.int z))) h1) : PMA l G yL_ways (.codeWith yL_ways cL_ways 5 (some .int) [(0, 10, 13, 25)]) { frames := 9, cells := 2, slots := 12, locals := 154 } [.ref (ad 0), .int x0, .int x1, .ref (ad 263)] SW ad h (gR SW ad (some (.int 0)) (hput h1 263 0 z)) gNo := by
  refine PMW.mk (L0 := [some (.ref (ad 0)), some (.int x0), some (.int x1), some (.ref (ad 263)), none]) RL "ways" 2 12 (by decide +kernel) rfl rfl ⟨rfl, rfl⟩ (by simp [Value.category]) (Nat.le_of_ble_eq_true rfl) rfl ?_
  refine pw_aload_n dL_ways_0 rfl ?_
  refine pw_iconst dL_ways_1 (v := 0) (by decide) ?_
  refine pw_aload_n dL_ways_2 rfl ?_
  refine pw_iload_n dL_ways_3 rfl ?_
  refine pw_iload_n dL_ways_4 rfl ?_
  refine pw_tV dL_ways_5 hc mi_X7_ways mv_X7_ways ml_L_91 sh_0 rfl rfl rfl rfl rfl rfl (fun Ex q => by cases q) (fun v q => ?_)
  cases q
  refine pw_i2l dL_ways_8 ?_
  refine pw_last dL_ways_9 sh_263 (vpin (n := 0) (N := 1) (by decide) (by decide)) (k := 0) rfl ?_
  refine pw_goto dL_ways_10 (tgt := 17) (by decide) ?_
  refine pw_iconst dL_ways_17 (v := 0) (by decide) ?_
  exact pw_iretF dL_ways_18 rfl rfl rfl rfl rfl

set_option maxRecDepth 100000 in
set_option maxHeartbeats 4000000 in
theorem sp_L_ways_x1 {l : Launch} {G : GC} {ad : Nat → Nat} {h h1 : HP} {x0 x1 : Int32} (hc : PT l G yX7_ways (.code yX7_ways cX7_ways 3 ((Option.some FieldType.int))) { frames := 8, cells := 2, slots := 12, locals := 132 } [.ref (ad 0), .int x0, .int x1] SW ad h (.inr "java/lang/IndexOutOfBoundsException") h1) : PMA l G yL_ways (.codeWith yL_ways cL_ways 5 (some .int) [(0, 10, 13, 25)]) { frames := 9, cells := 2, slots := 12, locals := 154 } [.ref (ad 0), .int x0, .int x1, .ref (ad 263)] SW ad h (gR SW ad (some (.int 1)) (h1)) gNo := by
  refine PMW.mk (L0 := [some (.ref (ad 0)), some (.int x0), some (.int x1), some (.ref (ad 263)), none]) RL "ways" 2 12 (by decide +kernel) rfl rfl ⟨rfl, rfl⟩ (by simp [Value.category]) (Nat.le_of_ble_eq_true rfl) rfl ?_
  refine pw_aload_n dL_ways_0 rfl ?_
  refine pw_iconst dL_ways_1 (v := 0) (by decide) ?_
  refine pw_aload_n dL_ways_2 rfl ?_
  refine pw_iload_n dL_ways_3 rfl ?_
  refine pw_iload_n dL_ways_4 rfl ?_
  refine pw_tV dL_ways_5 hc mi_X7_ways mv_X7_ways ml_L_91 sh_0 rfl rfl rfl rfl rfl rfl (fun Ex q => ?_) (fun v q => by cases q)
  cases q
  refine px_catch (pre := []) (suf := []) (x := (0, 10, 13, 25)) rfl (fun _ _ _ _ h9 => h9.2) (fun z hz => by cases hz) (by decide) (by decide) cl_L_25 ca_IOB (fun q => ?_)
  refine pw_astore dL_ways_13 (by decide) rfl ?_
  refine pw_iconst dL_ways_15 (v := 1) (by decide) ?_
  exact pw_iretF dL_ways_16 rfl rfl rfl rfl rfl

set_option maxRecDepth 100000 in
set_option maxHeartbeats 4000000 in
theorem sp_L_wish_ok {l : Launch} {G : GC} {ad : Nat → Nat} {h h1 : HP} {z : Int32} {x0 x1 x2 : Int32} (hc : PT l G yX7_wish (.code yX7_wish cX7_wish 5 ((Option.some FieldType.int))) { frames := 8, cells := 3, slots := 18, locals := 133 } [.ref (ad 0), .int x0, .int x1, .int x2] SW ad h (.inl (some (.int z))) h1) : PMA l G yL_wish (.codeWith yL_wish cL_wish 6 (some .int) [(0, 12, 15, 25), (0, 12, 19, 13)]) { frames := 9, cells := 3, slots := 18, locals := 157 } [.ref (ad 0), .int x0, .int x1, .int x2, .ref (ad 263)] SW ad h (gR SW ad (some (.int 0)) (hput h1 263 0 z)) gNo := by
  refine PMW.mk (L0 := [some (.ref (ad 0)), some (.int x0), some (.int x1), some (.int x2), some (.ref (ad 263)), none]) RL "wish" 3 18 (by decide +kernel) rfl rfl ⟨rfl, rfl⟩ (by simp [Value.category]) (Nat.le_of_ble_eq_true rfl) rfl ?_
  refine pw_aload dL_wish_0 rfl ?_
  refine pw_iconst dL_wish_2 (v := 0) (by decide) ?_
  refine pw_aload_n dL_wish_3 rfl ?_
  refine pw_iload_n dL_wish_4 rfl ?_
  refine pw_iload_n dL_wish_5 rfl ?_
  refine pw_iload_n dL_wish_6 rfl ?_
  refine pw_tV dL_wish_7 hc mi_X7_wish mv_X7_wish ml_L_67 sh_0 rfl rfl rfl rfl rfl rfl (fun Ex q => by cases q) (fun v q => ?_)
  cases q
  refine pw_i2l dL_wish_10 ?_
  refine pw_last dL_wish_11 sh_263 (vpin (n := 0) (N := 1) (by decide) (by decide)) (k := 0) rfl ?_
  refine pw_goto dL_wish_12 (tgt := 23) (by decide) ?_
  refine pw_iconst dL_wish_23 (v := 0) (by decide) ?_
  exact pw_iretF dL_wish_24 rfl rfl rfl rfl rfl

set_option maxRecDepth 100000 in
set_option maxHeartbeats 4000000 in
theorem sp_L_wish_x1 {l : Launch} {G : GC} {ad : Nat → Nat} {h h1 : HP} {x0 x1 x2 : Int32} (hc : PT l G yX7_wish (.code yX7_wish cX7_wish 5 ((Option.some FieldType.int))) { frames := 8, cells := 3, slots := 18, locals := 133 } [.ref (ad 0), .int x0, .int x1, .int x2] SW ad h (.inr "java/lang/IndexOutOfBoundsException") h1) : PMA l G yL_wish (.codeWith yL_wish cL_wish 6 (some .int) [(0, 12, 15, 25), (0, 12, 19, 13)]) { frames := 9, cells := 3, slots := 18, locals := 157 } [.ref (ad 0), .int x0, .int x1, .int x2, .ref (ad 263)] SW ad h (gR SW ad (some (.int 1)) (h1)) gNo := by
  refine PMW.mk (L0 := [some (.ref (ad 0)), some (.int x0), some (.int x1), some (.int x2), some (.ref (ad 263)), none]) RL "wish" 3 18 (by decide +kernel) rfl rfl ⟨rfl, rfl⟩ (by simp [Value.category]) (Nat.le_of_ble_eq_true rfl) rfl ?_
  refine pw_aload dL_wish_0 rfl ?_
  refine pw_iconst dL_wish_2 (v := 0) (by decide) ?_
  refine pw_aload_n dL_wish_3 rfl ?_
  refine pw_iload_n dL_wish_4 rfl ?_
  refine pw_iload_n dL_wish_5 rfl ?_
  refine pw_iload_n dL_wish_6 rfl ?_
  refine pw_tV dL_wish_7 hc mi_X7_wish mv_X7_wish ml_L_67 sh_0 rfl rfl rfl rfl rfl rfl (fun Ex q => ?_) (fun v q => by cases q)
  cases q
  refine px_catch (pre := []) (suf := [(0, 12, 19, 13)]) (x := (0, 12, 15, 25)) rfl (fun _ _ _ _ h9 => h9.2) (fun z hz => by cases hz) (by decide) (by decide) cl_L_25 ca_IOB (fun q => ?_)
  refine pw_astore dL_wish_15 (by decide) rfl ?_
  refine pw_iconst dL_wish_17 (v := 1) (by decide) ?_
  exact pw_iretF dL_wish_18 rfl rfl rfl rfl rfl

set_option maxRecDepth 100000 in
set_option maxHeartbeats 4000000 in
theorem sp_L_wish_x2 {l : Launch} {G : GC} {ad : Nat → Nat} {h h1 : HP} {x0 x1 x2 : Int32} (hc : PT l G yX7_wish (.code yX7_wish cX7_wish 5 ((Option.some FieldType.int))) { frames := 8, cells := 3, slots := 18, locals := 133 } [.ref (ad 0), .int x0, .int x1, .int x2] SW ad h (.inr "java/lang/IllegalArgumentException") h1) : PMA l G yL_wish (.codeWith yL_wish cL_wish 6 (some .int) [(0, 12, 15, 25), (0, 12, 19, 13)]) { frames := 9, cells := 3, slots := 18, locals := 157 } [.ref (ad 0), .int x0, .int x1, .int x2, .ref (ad 263)] SW ad h (gR SW ad (some (.int 2)) (h1)) gNo := by
  refine PMW.mk (L0 := [some (.ref (ad 0)), some (.int x0), some (.int x1), some (.int x2), some (.ref (ad 263)), none]) RL "wish" 3 18 (by decide +kernel) rfl rfl ⟨rfl, rfl⟩ (by simp [Value.category]) (Nat.le_of_ble_eq_true rfl) rfl ?_
  refine pw_aload dL_wish_0 rfl ?_
  refine pw_iconst dL_wish_2 (v := 0) (by decide) ?_
  refine pw_aload_n dL_wish_3 rfl ?_
  refine pw_iload_n dL_wish_4 rfl ?_
  refine pw_iload_n dL_wish_5 rfl ?_
  refine pw_iload_n dL_wish_6 rfl ?_
  refine pw_tV dL_wish_7 hc mi_X7_wish mv_X7_wish ml_L_67 sh_0 rfl rfl rfl rfl rfl rfl (fun Ex q => ?_) (fun v q => by cases q)
  cases q
  refine px_catch (pre := [(0, 12, 15, 25)]) (suf := []) (x := (0, 12, 19, 13)) rfl (fun _ _ _ _ h9 => h9.2) (fun z hz => by
    rcases List.mem_cons.mp hz with rfl | hz
    · exact ⟨by decide, _, cl_L_25, by decide⟩
    cases hz) (by decide) (by decide) cl_L_13 ca_IAE (fun q => ?_)
  refine pw_astore dL_wish_19 (by decide) rfl ?_
  refine pw_iconst dL_wish_21 (v := 2) (by decide) ?_
  exact pw_iretF dL_wish_22 rfl rfl rfl rfl rfl
