theorem dL_addBoat_0 : decode cL_addBoat 0 = .ok (.aload 4, 2) := by decide +kernel
theorem dL_addBoat_2 : decode cL_addBoat 2 = .ok (.iconst 0, 1) := by decide +kernel
theorem dL_addBoat_3 : decode cL_addBoat 3 = .ok (.aload_n 0, 1) := by decide +kernel
theorem dL_addBoat_4 : decode cL_addBoat 4 = .ok (.iload_n 1, 1) := by decide +kernel
theorem dL_addBoat_5 : decode cL_addBoat 5 = .ok (.iload_n 2, 1) := by decide +kernel
theorem dL_addBoat_6 : decode cL_addBoat 6 = .ok (.iload_n 3, 1) := by decide +kernel
theorem dL_addBoat_7 : decode cL_addBoat 7 = .ok (.invokevirtual 7, 3) := by decide +kernel
theorem dL_addBoat_10 : decode cL_addBoat 10 = .ok (.i2l, 1) := by decide +kernel
theorem dL_addBoat_11 : decode cL_addBoat 11 = .ok (.lastore, 1) := by decide +kernel
theorem dL_addBoat_12 : decode cL_addBoat 12 = .ok (.goto 11, 3) := by decide +kernel
theorem dL_addBoat_15 : decode cL_addBoat 15 = .ok (.astore 5, 2) := by decide +kernel
theorem dL_addBoat_17 : decode cL_addBoat 17 = .ok (.iconst 1, 1) := by decide +kernel
theorem dL_addBoat_18 : decode cL_addBoat 18 = .ok (.ireturn, 1) := by decide +kernel
theorem dL_addBoat_19 : decode cL_addBoat 19 = .ok (.astore 5, 2) := by decide +kernel
theorem dL_addBoat_21 : decode cL_addBoat 21 = .ok (.iconst 2, 1) := by decide +kernel
theorem dL_addBoat_22 : decode cL_addBoat 22 = .ok (.ireturn, 1) := by decide +kernel
theorem dL_addBoat_23 : decode cL_addBoat 23 = .ok (.iconst 0, 1) := by decide +kernel
theorem dL_addBoat_24 : decode cL_addBoat 24 = .ok (.ireturn, 1) := by decide +kernel
theorem dL_setValve_0 : decode cL_setValve 0 = .ok (.aload_n 3, 1) := by decide +kernel
theorem dL_setValve_1 : decode cL_setValve 1 = .ok (.iconst 0, 1) := by decide +kernel
theorem dL_setValve_2 : decode cL_setValve 2 = .ok (.aload_n 0, 1) := by decide +kernel
theorem dL_setValve_3 : decode cL_setValve 3 = .ok (.iload_n 1, 1) := by decide +kernel
theorem dL_setValve_4 : decode cL_setValve 4 = .ok (.iload_n 2, 1) := by decide +kernel
theorem dL_setValve_5 : decode cL_setValve 5 = .ok (.invokevirtual 17, 3) := by decide +kernel
theorem dL_setValve_8 : decode cL_setValve 8 = .ok (.i2l, 1) := by decide +kernel
theorem dL_setValve_9 : decode cL_setValve 9 = .ok (.lastore, 1) := by decide +kernel
theorem dL_setValve_10 : decode cL_setValve 10 = .ok (.goto 11, 3) := by decide +kernel
theorem dL_setValve_13 : decode cL_setValve 13 = .ok (.astore 4, 2) := by decide +kernel
theorem dL_setValve_15 : decode cL_setValve 15 = .ok (.iconst 1, 1) := by decide +kernel
theorem dL_setValve_16 : decode cL_setValve 16 = .ok (.ireturn, 1) := by decide +kernel
theorem dL_setValve_17 : decode cL_setValve 17 = .ok (.astore 4, 2) := by decide +kernel
theorem dL_setValve_19 : decode cL_setValve 19 = .ok (.iconst 2, 1) := by decide +kernel
theorem dL_setValve_20 : decode cL_setValve 20 = .ok (.ireturn, 1) := by decide +kernel
theorem dL_setValve_21 : decode cL_setValve 21 = .ok (.iconst 0, 1) := by decide +kernel
theorem dL_setValve_22 : decode cL_setValve 22 = .ok (.ireturn, 1) := by decide +kernel
theorem dL_openGate_0 : decode cL_openGate 0 = .ok (.aload_n 2, 1) := by decide +kernel
theorem dL_openGate_1 : decode cL_openGate 1 = .ok (.iconst 0, 1) := by decide +kernel
theorem dL_openGate_2 : decode cL_openGate 2 = .ok (.aload_n 0, 1) := by decide +kernel
theorem dL_openGate_3 : decode cL_openGate 3 = .ok (.iload_n 1, 1) := by decide +kernel
theorem dL_openGate_4 : decode cL_openGate 4 = .ok (.invokevirtual 23, 3) := by decide +kernel
theorem dL_openGate_7 : decode cL_openGate 7 = .ok (.i2l, 1) := by decide +kernel
theorem dL_openGate_8 : decode cL_openGate 8 = .ok (.lastore, 1) := by decide +kernel
theorem dL_openGate_9 : decode cL_openGate 9 = .ok (.goto 12, 3) := by decide +kernel
theorem dL_openGate_12 : decode cL_openGate 12 = .ok (.astore_n 3, 1) := by decide +kernel
theorem dL_openGate_13 : decode cL_openGate 13 = .ok (.iconst 1, 1) := by decide +kernel
theorem dL_openGate_14 : decode cL_openGate 14 = .ok (.ireturn, 1) := by decide +kernel
theorem dL_openGate_15 : decode cL_openGate 15 = .ok (.astore_n 3, 1) := by decide +kernel
theorem dL_openGate_16 : decode cL_openGate 16 = .ok (.iconst 2, 1) := by decide +kernel
theorem dL_openGate_17 : decode cL_openGate 17 = .ok (.ireturn, 1) := by decide +kernel
theorem dL_openGate_18 : decode cL_openGate 18 = .ok (.astore_n 3, 1) := by decide +kernel
theorem dL_openGate_19 : decode cL_openGate 19 = .ok (.iconst 3, 1) := by decide +kernel
theorem dL_openGate_20 : decode cL_openGate 20 = .ok (.ireturn, 1) := by decide +kernel
theorem dL_openGate_21 : decode cL_openGate 21 = .ok (.iconst 0, 1) := by decide +kernel
theorem dL_openGate_22 : decode cL_openGate 22 = .ok (.ireturn, 1) := by decide +kernel
theorem dL_shutGate_0 : decode cL_shutGate 0 = .ok (.aload_n 2, 1) := by decide +kernel
theorem dL_shutGate_1 : decode cL_shutGate 1 = .ok (.iconst 0, 1) := by decide +kernel
theorem dL_shutGate_2 : decode cL_shutGate 2 = .ok (.aload_n 0, 1) := by decide +kernel
theorem dL_shutGate_3 : decode cL_shutGate 3 = .ok (.iload_n 1, 1) := by decide +kernel
theorem dL_shutGate_4 : decode cL_shutGate 4 = .ok (.invokevirtual 29, 3) := by decide +kernel
theorem dL_shutGate_7 : decode cL_shutGate 7 = .ok (.i2l, 1) := by decide +kernel
theorem dL_shutGate_8 : decode cL_shutGate 8 = .ok (.lastore, 1) := by decide +kernel
theorem dL_shutGate_9 : decode cL_shutGate 9 = .ok (.goto 9, 3) := by decide +kernel
theorem dL_shutGate_12 : decode cL_shutGate 12 = .ok (.astore_n 3, 1) := by decide +kernel
theorem dL_shutGate_13 : decode cL_shutGate 13 = .ok (.iconst 1, 1) := by decide +kernel
theorem dL_shutGate_14 : decode cL_shutGate 14 = .ok (.ireturn, 1) := by decide +kernel
theorem dL_shutGate_15 : decode cL_shutGate 15 = .ok (.astore_n 3, 1) := by decide +kernel
theorem dL_shutGate_16 : decode cL_shutGate 16 = .ok (.iconst 2, 1) := by decide +kernel
theorem dL_shutGate_17 : decode cL_shutGate 17 = .ok (.ireturn, 1) := by decide +kernel
theorem dL_shutGate_18 : decode cL_shutGate 18 = .ok (.iconst 0, 1) := by decide +kernel
theorem dL_shutGate_19 : decode cL_shutGate 19 = .ok (.ireturn, 1) := by decide +kernel
theorem dL_setRain_0 : decode cL_setRain 0 = .ok (.aload_n 2, 1) := by decide +kernel
theorem dL_setRain_1 : decode cL_setRain 1 = .ok (.iconst 0, 1) := by decide +kernel
theorem dL_setRain_2 : decode cL_setRain 2 = .ok (.aload_n 0, 1) := by decide +kernel
theorem dL_setRain_3 : decode cL_setRain 3 = .ok (.iload_n 1, 1) := by decide +kernel
theorem dL_setRain_4 : decode cL_setRain 4 = .ok (.invokevirtual 32, 3) := by decide +kernel
theorem dL_setRain_7 : decode cL_setRain 7 = .ok (.i2l, 1) := by decide +kernel
theorem dL_setRain_8 : decode cL_setRain 8 = .ok (.lastore, 1) := by decide +kernel
theorem dL_setRain_9 : decode cL_setRain 9 = .ok (.goto 6, 3) := by decide +kernel
theorem dL_setRain_12 : decode cL_setRain 12 = .ok (.astore_n 3, 1) := by decide +kernel
theorem dL_setRain_13 : decode cL_setRain 13 = .ok (.iconst 1, 1) := by decide +kernel
theorem dL_setRain_14 : decode cL_setRain 14 = .ok (.ireturn, 1) := by decide +kernel
theorem dL_setRain_15 : decode cL_setRain 15 = .ok (.iconst 0, 1) := by decide +kernel
theorem dL_setRain_16 : decode cL_setRain 16 = .ok (.ireturn, 1) := by decide +kernel
theorem dL_setDrain_0 : decode cL_setDrain 0 = .ok (.aload_n 2, 1) := by decide +kernel
theorem dL_setDrain_1 : decode cL_setDrain 1 = .ok (.iconst 0, 1) := by decide +kernel
theorem dL_setDrain_2 : decode cL_setDrain 2 = .ok (.aload_n 0, 1) := by decide +kernel
theorem dL_setDrain_3 : decode cL_setDrain 3 = .ok (.iload_n 1, 1) := by decide +kernel
theorem dL_setDrain_4 : decode cL_setDrain 4 = .ok (.invokevirtual 35, 3) := by decide +kernel
theorem dL_setDrain_7 : decode cL_setDrain 7 = .ok (.i2l, 1) := by decide +kernel
theorem dL_setDrain_8 : decode cL_setDrain 8 = .ok (.lastore, 1) := by decide +kernel
theorem dL_setDrain_9 : decode cL_setDrain 9 = .ok (.goto 6, 3) := by decide +kernel
theorem dL_setDrain_12 : decode cL_setDrain 12 = .ok (.astore_n 3, 1) := by decide +kernel
theorem dL_setDrain_13 : decode cL_setDrain 13 = .ok (.iconst 1, 1) := by decide +kernel
theorem dL_setDrain_14 : decode cL_setDrain 14 = .ok (.ireturn, 1) := by decide +kernel
theorem dL_setDrain_15 : decode cL_setDrain 15 = .ok (.iconst 0, 1) := by decide +kernel
theorem dL_setDrain_16 : decode cL_setDrain 16 = .ok (.ireturn, 1) := by decide +kernel
theorem dL_advance_0 : decode cL_advance 0 = .ok (.aload_n 2, 1) := by decide +kernel
theorem dL_advance_1 : decode cL_advance 1 = .ok (.iconst 0, 1) := by decide +kernel
theorem dL_advance_2 : decode cL_advance 2 = .ok (.aload_n 0, 1) := by decide +kernel
theorem dL_advance_3 : decode cL_advance 3 = .ok (.iload_n 1, 1) := by decide +kernel
theorem dL_advance_4 : decode cL_advance 4 = .ok (.invokevirtual 38, 3) := by decide +kernel
theorem dL_advance_7 : decode cL_advance 7 = .ok (.i2l, 1) := by decide +kernel
theorem dL_advance_8 : decode cL_advance 8 = .ok (.lastore, 1) := by decide +kernel
theorem dL_advance_9 : decode cL_advance 9 = .ok (.goto 6, 3) := by decide +kernel
theorem dL_advance_12 : decode cL_advance 12 = .ok (.astore_n 3, 1) := by decide +kernel
theorem dL_advance_13 : decode cL_advance 13 = .ok (.iconst 1, 1) := by decide +kernel
theorem dL_advance_14 : decode cL_advance 14 = .ok (.ireturn, 1) := by decide +kernel
theorem dL_advance_15 : decode cL_advance 15 = .ok (.iconst 0, 1) := by decide +kernel
theorem dL_advance_16 : decode cL_advance 16 = .ok (.ireturn, 1) := by decide +kernel
theorem dL_area_0 : decode cL_area 0 = .ok (.aload_n 2, 1) := by decide +kernel
theorem dL_area_1 : decode cL_area 1 = .ok (.iconst 0, 1) := by decide +kernel
theorem dL_area_2 : decode cL_area 2 = .ok (.aload_n 0, 1) := by decide +kernel
theorem dL_area_3 : decode cL_area 3 = .ok (.iload_n 1, 1) := by decide +kernel
theorem dL_area_4 : decode cL_area 4 = .ok (.invokevirtual 41, 3) := by decide +kernel
theorem dL_area_7 : decode cL_area 7 = .ok (.i2l, 1) := by decide +kernel
theorem dL_area_8 : decode cL_area 8 = .ok (.lastore, 1) := by decide +kernel
theorem dL_area_9 : decode cL_area 9 = .ok (.goto 6, 3) := by decide +kernel
theorem dL_area_12 : decode cL_area 12 = .ok (.astore_n 3, 1) := by decide +kernel
theorem dL_area_13 : decode cL_area 13 = .ok (.iconst 1, 1) := by decide +kernel
theorem dL_area_14 : decode cL_area 14 = .ok (.ireturn, 1) := by decide +kernel
theorem dL_area_15 : decode cL_area 15 = .ok (.iconst 0, 1) := by decide +kernel
theorem dL_area_16 : decode cL_area 16 = .ok (.ireturn, 1) := by decide +kernel
theorem dL_volume_0 : decode cL_volume 0 = .ok (.aload_n 2, 1) := by decide +kernel
theorem dL_volume_1 : decode cL_volume 1 = .ok (.iconst 0, 1) := by decide +kernel
theorem dL_volume_2 : decode cL_volume 2 = .ok (.aload_n 0, 1) := by decide +kernel
theorem dL_volume_3 : decode cL_volume 3 = .ok (.iload_n 1, 1) := by decide +kernel
theorem dL_volume_4 : decode cL_volume 4 = .ok (.invokevirtual 44, 3) := by decide +kernel
theorem dL_volume_7 : decode cL_volume 7 = .ok (.i2l, 1) := by decide +kernel
theorem dL_volume_8 : decode cL_volume 8 = .ok (.lastore, 1) := by decide +kernel
theorem dL_volume_9 : decode cL_volume 9 = .ok (.goto 6, 3) := by decide +kernel
theorem dL_volume_12 : decode cL_volume 12 = .ok (.astore_n 3, 1) := by decide +kernel
theorem dL_volume_13 : decode cL_volume 13 = .ok (.iconst 1, 1) := by decide +kernel
theorem dL_volume_14 : decode cL_volume 14 = .ok (.ireturn, 1) := by decide +kernel
theorem dL_volume_15 : decode cL_volume 15 = .ok (.iconst 0, 1) := by decide +kernel
theorem dL_volume_16 : decode cL_volume 16 = .ok (.ireturn, 1) := by decide +kernel
theorem dL_level_0 : decode cL_level 0 = .ok (.aload_n 2, 1) := by decide +kernel
theorem dL_level_1 : decode cL_level 1 = .ok (.iconst 0, 1) := by decide +kernel
theorem dL_level_2 : decode cL_level 2 = .ok (.aload_n 0, 1) := by decide +kernel
theorem dL_level_3 : decode cL_level 3 = .ok (.iload_n 1, 1) := by decide +kernel
theorem dL_level_4 : decode cL_level 4 = .ok (.invokevirtual 47, 3) := by decide +kernel
theorem dL_level_7 : decode cL_level 7 = .ok (.i2l, 1) := by decide +kernel
theorem dL_level_8 : decode cL_level 8 = .ok (.lastore, 1) := by decide +kernel
theorem dL_level_9 : decode cL_level 9 = .ok (.goto 6, 3) := by decide +kernel
theorem dL_level_12 : decode cL_level 12 = .ok (.astore_n 3, 1) := by decide +kernel
theorem dL_level_13 : decode cL_level 13 = .ok (.iconst 1, 1) := by decide +kernel
theorem dL_level_14 : decode cL_level 14 = .ok (.ireturn, 1) := by decide +kernel
theorem dL_level_15 : decode cL_level 15 = .ok (.iconst 0, 1) := by decide +kernel
theorem dL_level_16 : decode cL_level 16 = .ok (.ireturn, 1) := by decide +kernel
theorem dL_exactLevel_0 : decode cL_exactLevel 0 = .ok (.aload_n 2, 1) := by decide +kernel
theorem dL_exactLevel_1 : decode cL_exactLevel 1 = .ok (.iconst 0, 1) := by decide +kernel
theorem dL_exactLevel_2 : decode cL_exactLevel 2 = .ok (.aload_n 0, 1) := by decide +kernel
theorem dL_exactLevel_3 : decode cL_exactLevel 3 = .ok (.iload_n 1, 1) := by decide +kernel
theorem dL_exactLevel_4 : decode cL_exactLevel 4 = .ok (.invokevirtual 50, 3) := by decide +kernel
theorem dL_exactLevel_7 : decode cL_exactLevel 7 = .ok (.dastore, 1) := by decide +kernel
theorem dL_exactLevel_8 : decode cL_exactLevel 8 = .ok (.goto 6, 3) := by decide +kernel
theorem dL_exactLevel_11 : decode cL_exactLevel 11 = .ok (.astore_n 3, 1) := by decide +kernel
theorem dL_exactLevel_12 : decode cL_exactLevel 12 = .ok (.iconst 1, 1) := by decide +kernel
theorem dL_exactLevel_13 : decode cL_exactLevel 13 = .ok (.ireturn, 1) := by decide +kernel
theorem dL_exactLevel_14 : decode cL_exactLevel 14 = .ok (.iconst 0, 1) := by decide +kernel
theorem dL_exactLevel_15 : decode cL_exactLevel 15 = .ok (.ireturn, 1) := by decide +kernel
theorem dL_isHigher_0 : decode cL_isHigher 0 = .ok (.aload_n 3, 1) := by decide +kernel
theorem dL_isHigher_1 : decode cL_isHigher 1 = .ok (.iconst 0, 1) := by decide +kernel
theorem dL_isHigher_2 : decode cL_isHigher 2 = .ok (.aload_n 0, 1) := by decide +kernel
theorem dL_isHigher_3 : decode cL_isHigher 3 = .ok (.iload_n 1, 1) := by decide +kernel
theorem dL_isHigher_4 : decode cL_isHigher 4 = .ok (.iload_n 2, 1) := by decide +kernel
theorem dL_isHigher_5 : decode cL_isHigher 5 = .ok (.invokevirtual 54, 3) := by decide +kernel
theorem dL_isHigher_8 : decode cL_isHigher 8 = .ok (.ifCond .eq 7, 3) := by decide +kernel
theorem dL_isHigher_11 : decode cL_isHigher 11 = .ok (.lconst 1, 1) := by decide +kernel
theorem dL_isHigher_12 : decode cL_isHigher 12 = .ok (.goto 4, 3) := by decide +kernel
theorem dL_isHigher_15 : decode cL_isHigher 15 = .ok (.lconst 0, 1) := by decide +kernel
theorem dL_isHigher_16 : decode cL_isHigher 16 = .ok (.lastore, 1) := by decide +kernel
theorem dL_isHigher_17 : decode cL_isHigher 17 = .ok (.goto 7, 3) := by decide +kernel
theorem dL_isHigher_20 : decode cL_isHigher 20 = .ok (.astore 4, 2) := by decide +kernel
theorem dL_isHigher_22 : decode cL_isHigher 22 = .ok (.iconst 1, 1) := by decide +kernel
theorem dL_isHigher_23 : decode cL_isHigher 23 = .ok (.ireturn, 1) := by decide +kernel
theorem dL_isHigher_24 : decode cL_isHigher 24 = .ok (.iconst 0, 1) := by decide +kernel
theorem dL_isHigher_25 : decode cL_isHigher 25 = .ok (.ireturn, 1) := by decide +kernel
theorem dL_equalizingAmount_0 : decode cL_equalizingAmount 0 = .ok (.aload_n 2, 1) := by decide +kernel
theorem dL_equalizingAmount_1 : decode cL_equalizingAmount 1 = .ok (.iconst 0, 1) := by decide +kernel
theorem dL_equalizingAmount_2 : decode cL_equalizingAmount 2 = .ok (.aload_n 0, 1) := by decide +kernel
theorem dL_equalizingAmount_3 : decode cL_equalizingAmount 3 = .ok (.iload_n 1, 1) := by decide +kernel
theorem dL_equalizingAmount_4 : decode cL_equalizingAmount 4 = .ok (.invokevirtual 58, 3) := by decide +kernel
theorem dL_equalizingAmount_7 : decode cL_equalizingAmount 7 = .ok (.i2l, 1) := by decide +kernel
theorem dL_equalizingAmount_8 : decode cL_equalizingAmount 8 = .ok (.lastore, 1) := by decide +kernel
theorem dL_equalizingAmount_9 : decode cL_equalizingAmount 9 = .ok (.goto 6, 3) := by decide +kernel
theorem dL_equalizingAmount_12 : decode cL_equalizingAmount 12 = .ok (.astore_n 3, 1) := by decide +kernel
theorem dL_equalizingAmount_13 : decode cL_equalizingAmount 13 = .ok (.iconst 1, 1) := by decide +kernel
theorem dL_equalizingAmount_14 : decode cL_equalizingAmount 14 = .ok (.ireturn, 1) := by decide +kernel
theorem dL_equalizingAmount_15 : decode cL_equalizingAmount 15 = .ok (.iconst 0, 1) := by decide +kernel
theorem dL_equalizingAmount_16 : decode cL_equalizingAmount 16 = .ok (.ireturn, 1) := by decide +kernel
theorem dL_equalizingAmountByLitres_0 : decode cL_equalizingAmountByLitres 0 = .ok (.aload_n 2, 1) := by decide +kernel
theorem dL_equalizingAmountByLitres_1 : decode cL_equalizingAmountByLitres 1 = .ok (.iconst 0, 1) := by decide +kernel
theorem dL_equalizingAmountByLitres_2 : decode cL_equalizingAmountByLitres 2 = .ok (.aload_n 0, 1) := by decide +kernel
theorem dL_equalizingAmountByLitres_3 : decode cL_equalizingAmountByLitres 3 = .ok (.iload_n 1, 1) := by decide +kernel
theorem dL_equalizingAmountByLitres_4 : decode cL_equalizingAmountByLitres 4 = .ok (.invokevirtual 61, 3) := by decide +kernel
theorem dL_equalizingAmountByLitres_7 : decode cL_equalizingAmountByLitres 7 = .ok (.i2l, 1) := by decide +kernel
theorem dL_equalizingAmountByLitres_8 : decode cL_equalizingAmountByLitres 8 = .ok (.lastore, 1) := by decide +kernel
theorem dL_equalizingAmountByLitres_9 : decode cL_equalizingAmountByLitres 9 = .ok (.goto 6, 3) := by decide +kernel
theorem dL_equalizingAmountByLitres_12 : decode cL_equalizingAmountByLitres 12 = .ok (.astore_n 3, 1) := by decide +kernel
theorem dL_equalizingAmountByLitres_13 : decode cL_equalizingAmountByLitres 13 = .ok (.iconst 1, 1) := by decide +kernel
theorem dL_equalizingAmountByLitres_14 : decode cL_equalizingAmountByLitres 14 = .ok (.ireturn, 1) := by decide +kernel
theorem dL_equalizingAmountByLitres_15 : decode cL_equalizingAmountByLitres 15 = .ok (.iconst 0, 1) := by decide +kernel
theorem dL_equalizingAmountByLitres_16 : decode cL_equalizingAmountByLitres 16 = .ok (.ireturn, 1) := by decide +kernel
theorem dL_opening_0 : decode cL_opening 0 = .ok (.aload_n 2, 1) := by decide +kernel
theorem dL_opening_1 : decode cL_opening 1 = .ok (.iconst 0, 1) := by decide +kernel
theorem dL_opening_2 : decode cL_opening 2 = .ok (.aload_n 0, 1) := by decide +kernel
theorem dL_opening_3 : decode cL_opening 3 = .ok (.iload_n 1, 1) := by decide +kernel
theorem dL_opening_4 : decode cL_opening 4 = .ok (.invokevirtual 64, 3) := by decide +kernel
theorem dL_opening_7 : decode cL_opening 7 = .ok (.i2l, 1) := by decide +kernel
theorem dL_opening_8 : decode cL_opening 8 = .ok (.lastore, 1) := by decide +kernel
theorem dL_opening_9 : decode cL_opening 9 = .ok (.goto 6, 3) := by decide +kernel
theorem dL_opening_12 : decode cL_opening 12 = .ok (.astore_n 3, 1) := by decide +kernel
theorem dL_opening_13 : decode cL_opening 13 = .ok (.iconst 1, 1) := by decide +kernel
theorem dL_opening_14 : decode cL_opening 14 = .ok (.ireturn, 1) := by decide +kernel
theorem dL_opening_15 : decode cL_opening 15 = .ok (.iconst 0, 1) := by decide +kernel
theorem dL_opening_16 : decode cL_opening 16 = .ok (.ireturn, 1) := by decide +kernel
theorem dL_isOpen_0 : decode cL_isOpen 0 = .ok (.aload_n 2, 1) := by decide +kernel
theorem dL_isOpen_1 : decode cL_isOpen 1 = .ok (.iconst 0, 1) := by decide +kernel
theorem dL_isOpen_2 : decode cL_isOpen 2 = .ok (.aload_n 0, 1) := by decide +kernel
theorem dL_isOpen_3 : decode cL_isOpen 3 = .ok (.iload_n 1, 1) := by decide +kernel
theorem dL_isOpen_4 : decode cL_isOpen 4 = .ok (.invokevirtual 67, 3) := by decide +kernel
theorem dL_isOpen_7 : decode cL_isOpen 7 = .ok (.ifCond .eq 7, 3) := by decide +kernel
theorem dL_isOpen_10 : decode cL_isOpen 10 = .ok (.lconst 1, 1) := by decide +kernel
theorem dL_isOpen_11 : decode cL_isOpen 11 = .ok (.goto 4, 3) := by decide +kernel
theorem dL_isOpen_14 : decode cL_isOpen 14 = .ok (.lconst 0, 1) := by decide +kernel
theorem dL_isOpen_15 : decode cL_isOpen 15 = .ok (.lastore, 1) := by decide +kernel
theorem dL_isOpen_16 : decode cL_isOpen 16 = .ok (.goto 6, 3) := by decide +kernel
theorem dL_isOpen_19 : decode cL_isOpen 19 = .ok (.astore_n 3, 1) := by decide +kernel
theorem dL_isOpen_20 : decode cL_isOpen 20 = .ok (.iconst 1, 1) := by decide +kernel
theorem dL_isOpen_21 : decode cL_isOpen 21 = .ok (.ireturn, 1) := by decide +kernel
theorem dL_isOpen_22 : decode cL_isOpen 22 = .ok (.iconst 0, 1) := by decide +kernel
theorem dL_isOpen_23 : decode cL_isOpen 23 = .ok (.ireturn, 1) := by decide +kernel
theorem dL_flow_0 : decode cL_flow 0 = .ok (.aload_n 2, 1) := by decide +kernel
theorem dL_flow_1 : decode cL_flow 1 = .ok (.iconst 0, 1) := by decide +kernel
theorem dL_flow_2 : decode cL_flow 2 = .ok (.aload_n 0, 1) := by decide +kernel
theorem dL_flow_3 : decode cL_flow 3 = .ok (.iload_n 1, 1) := by decide +kernel
theorem dL_flow_4 : decode cL_flow 4 = .ok (.invokevirtual 71, 3) := by decide +kernel
theorem dL_flow_7 : decode cL_flow 7 = .ok (.i2l, 1) := by decide +kernel
theorem dL_flow_8 : decode cL_flow 8 = .ok (.lastore, 1) := by decide +kernel
theorem dL_flow_9 : decode cL_flow 9 = .ok (.goto 6, 3) := by decide +kernel
theorem dL_flow_12 : decode cL_flow 12 = .ok (.astore_n 3, 1) := by decide +kernel
theorem dL_flow_13 : decode cL_flow 13 = .ok (.iconst 1, 1) := by decide +kernel
theorem dL_flow_14 : decode cL_flow 14 = .ok (.ireturn, 1) := by decide +kernel
theorem dL_flow_15 : decode cL_flow 15 = .ok (.iconst 0, 1) := by decide +kernel
theorem dL_flow_16 : decode cL_flow 16 = .ok (.ireturn, 1) := by decide +kernel
theorem dL_basinByLevel_0 : decode cL_basinByLevel 0 = .ok (.aload_n 2, 1) := by decide +kernel
theorem dL_basinByLevel_1 : decode cL_basinByLevel 1 = .ok (.iconst 0, 1) := by decide +kernel
theorem dL_basinByLevel_2 : decode cL_basinByLevel 2 = .ok (.aload_n 0, 1) := by decide +kernel
theorem dL_basinByLevel_3 : decode cL_basinByLevel 3 = .ok (.iload_n 1, 1) := by decide +kernel
theorem dL_basinByLevel_4 : decode cL_basinByLevel 4 = .ok (.invokevirtual 74, 3) := by decide +kernel
theorem dL_basinByLevel_7 : decode cL_basinByLevel 7 = .ok (.i2l, 1) := by decide +kernel
theorem dL_basinByLevel_8 : decode cL_basinByLevel 8 = .ok (.lastore, 1) := by decide +kernel
theorem dL_basinByLevel_9 : decode cL_basinByLevel 9 = .ok (.goto 6, 3) := by decide +kernel
theorem dL_basinByLevel_12 : decode cL_basinByLevel 12 = .ok (.astore_n 3, 1) := by decide +kernel
theorem dL_basinByLevel_13 : decode cL_basinByLevel 13 = .ok (.iconst 1, 1) := by decide +kernel
theorem dL_basinByLevel_14 : decode cL_basinByLevel 14 = .ok (.ireturn, 1) := by decide +kernel
theorem dL_basinByLevel_15 : decode cL_basinByLevel 15 = .ok (.iconst 0, 1) := by decide +kernel
theorem dL_basinByLevel_16 : decode cL_basinByLevel 16 = .ok (.ireturn, 1) := by decide +kernel
theorem dL_colour_0 : decode cL_colour 0 = .ok (.aload_n 2, 1) := by decide +kernel
theorem dL_colour_1 : decode cL_colour 1 = .ok (.iconst 0, 1) := by decide +kernel
theorem dL_colour_2 : decode cL_colour 2 = .ok (.aload_n 0, 1) := by decide +kernel
theorem dL_colour_3 : decode cL_colour 3 = .ok (.iload_n 1, 1) := by decide +kernel
theorem dL_colour_4 : decode cL_colour 4 = .ok (.invokevirtual 79, 3) := by decide +kernel
theorem dL_colour_7 : decode cL_colour 7 = .ok (.i2l, 1) := by decide +kernel
theorem dL_colour_8 : decode cL_colour 8 = .ok (.lastore, 1) := by decide +kernel
theorem dL_colour_9 : decode cL_colour 9 = .ok (.goto 6, 3) := by decide +kernel
theorem dL_colour_12 : decode cL_colour 12 = .ok (.astore_n 3, 1) := by decide +kernel
theorem dL_colour_13 : decode cL_colour 13 = .ok (.iconst 1, 1) := by decide +kernel
theorem dL_colour_14 : decode cL_colour 14 = .ok (.ireturn, 1) := by decide +kernel
theorem dL_colour_15 : decode cL_colour 15 = .ok (.iconst 0, 1) := by decide +kernel
theorem dL_colour_16 : decode cL_colour 16 = .ok (.ireturn, 1) := by decide +kernel
theorem dL_draught_0 : decode cL_draught 0 = .ok (.aload_n 2, 1) := by decide +kernel
theorem dL_draught_1 : decode cL_draught 1 = .ok (.iconst 0, 1) := by decide +kernel
theorem dL_draught_2 : decode cL_draught 2 = .ok (.aload_n 0, 1) := by decide +kernel
theorem dL_draught_3 : decode cL_draught 3 = .ok (.iload_n 1, 1) := by decide +kernel
theorem dL_draught_4 : decode cL_draught 4 = .ok (.invokevirtual 83, 3) := by decide +kernel
theorem dL_draught_7 : decode cL_draught 7 = .ok (.i2l, 1) := by decide +kernel
theorem dL_draught_8 : decode cL_draught 8 = .ok (.lastore, 1) := by decide +kernel
theorem dL_draught_9 : decode cL_draught 9 = .ok (.goto 6, 3) := by decide +kernel
theorem dL_draught_12 : decode cL_draught 12 = .ok (.astore_n 3, 1) := by decide +kernel
theorem dL_draught_13 : decode cL_draught 13 = .ok (.iconst 1, 1) := by decide +kernel
theorem dL_draught_14 : decode cL_draught 14 = .ok (.ireturn, 1) := by decide +kernel
theorem dL_draught_15 : decode cL_draught 15 = .ok (.iconst 0, 1) := by decide +kernel
theorem dL_draught_16 : decode cL_draught 16 = .ok (.ireturn, 1) := by decide +kernel
theorem dL_isGoingDown_0 : decode cL_isGoingDown 0 = .ok (.aload_n 2, 1) := by decide +kernel
theorem dL_isGoingDown_1 : decode cL_isGoingDown 1 = .ok (.iconst 0, 1) := by decide +kernel
theorem dL_isGoingDown_2 : decode cL_isGoingDown 2 = .ok (.aload_n 0, 1) := by decide +kernel
theorem dL_isGoingDown_3 : decode cL_isGoingDown 3 = .ok (.iload_n 1, 1) := by decide +kernel
theorem dL_isGoingDown_4 : decode cL_isGoingDown 4 = .ok (.invokevirtual 86, 3) := by decide +kernel
theorem dL_isGoingDown_7 : decode cL_isGoingDown 7 = .ok (.ifCond .eq 7, 3) := by decide +kernel
theorem dL_isGoingDown_10 : decode cL_isGoingDown 10 = .ok (.lconst 1, 1) := by decide +kernel
theorem dL_isGoingDown_11 : decode cL_isGoingDown 11 = .ok (.goto 4, 3) := by decide +kernel
theorem dL_isGoingDown_14 : decode cL_isGoingDown 14 = .ok (.lconst 0, 1) := by decide +kernel
theorem dL_isGoingDown_15 : decode cL_isGoingDown 15 = .ok (.lastore, 1) := by decide +kernel
theorem dL_isGoingDown_16 : decode cL_isGoingDown 16 = .ok (.goto 6, 3) := by decide +kernel
theorem dL_isGoingDown_19 : decode cL_isGoingDown 19 = .ok (.astore_n 3, 1) := by decide +kernel
theorem dL_isGoingDown_20 : decode cL_isGoingDown 20 = .ok (.iconst 1, 1) := by decide +kernel
theorem dL_isGoingDown_21 : decode cL_isGoingDown 21 = .ok (.ireturn, 1) := by decide +kernel
theorem dL_isGoingDown_22 : decode cL_isGoingDown 22 = .ok (.iconst 0, 1) := by decide +kernel
theorem dL_isGoingDown_23 : decode cL_isGoingDown 23 = .ok (.ireturn, 1) := by decide +kernel
theorem dL_basinOf_0 : decode cL_basinOf 0 = .ok (.aload_n 2, 1) := by decide +kernel
theorem dL_basinOf_1 : decode cL_basinOf 1 = .ok (.iconst 0, 1) := by decide +kernel
theorem dL_basinOf_2 : decode cL_basinOf 2 = .ok (.aload_n 0, 1) := by decide +kernel
theorem dL_basinOf_3 : decode cL_basinOf 3 = .ok (.iload_n 1, 1) := by decide +kernel
theorem dL_basinOf_4 : decode cL_basinOf 4 = .ok (.invokevirtual 89, 3) := by decide +kernel
theorem dL_basinOf_7 : decode cL_basinOf 7 = .ok (.i2l, 1) := by decide +kernel
theorem dL_basinOf_8 : decode cL_basinOf 8 = .ok (.lastore, 1) := by decide +kernel
theorem dL_basinOf_9 : decode cL_basinOf 9 = .ok (.goto 6, 3) := by decide +kernel
theorem dL_basinOf_12 : decode cL_basinOf 12 = .ok (.astore_n 3, 1) := by decide +kernel
theorem dL_basinOf_13 : decode cL_basinOf 13 = .ok (.iconst 1, 1) := by decide +kernel
theorem dL_basinOf_14 : decode cL_basinOf 14 = .ok (.ireturn, 1) := by decide +kernel
theorem dL_basinOf_15 : decode cL_basinOf 15 = .ok (.iconst 0, 1) := by decide +kernel
theorem dL_basinOf_16 : decode cL_basinOf 16 = .ok (.ireturn, 1) := by decide +kernel
theorem dL_boatsIn_0 : decode cL_boatsIn 0 = .ok (.aload_n 2, 1) := by decide +kernel
theorem dL_boatsIn_1 : decode cL_boatsIn 1 = .ok (.iconst 0, 1) := by decide +kernel
theorem dL_boatsIn_2 : decode cL_boatsIn 2 = .ok (.aload_n 0, 1) := by decide +kernel
theorem dL_boatsIn_3 : decode cL_boatsIn 3 = .ok (.iload_n 1, 1) := by decide +kernel
theorem dL_boatsIn_4 : decode cL_boatsIn 4 = .ok (.invokevirtual 92, 3) := by decide +kernel
theorem dL_boatsIn_7 : decode cL_boatsIn 7 = .ok (.i2l, 1) := by decide +kernel
theorem dL_boatsIn_8 : decode cL_boatsIn 8 = .ok (.lastore, 1) := by decide +kernel
theorem dL_boatsIn_9 : decode cL_boatsIn 9 = .ok (.goto 6, 3) := by decide +kernel
theorem dL_boatsIn_12 : decode cL_boatsIn 12 = .ok (.astore_n 3, 1) := by decide +kernel
theorem dL_boatsIn_13 : decode cL_boatsIn 13 = .ok (.iconst 1, 1) := by decide +kernel
theorem dL_boatsIn_14 : decode cL_boatsIn 14 = .ok (.ireturn, 1) := by decide +kernel
theorem dL_boatsIn_15 : decode cL_boatsIn 15 = .ok (.iconst 0, 1) := by decide +kernel
theorem dL_boatsIn_16 : decode cL_boatsIn 16 = .ok (.ireturn, 1) := by decide +kernel
theorem dL_boatInOrder_0 : decode cL_boatInOrder 0 = .ok (.aload_n 2, 1) := by decide +kernel
theorem dL_boatInOrder_1 : decode cL_boatInOrder 1 = .ok (.iconst 0, 1) := by decide +kernel
theorem dL_boatInOrder_2 : decode cL_boatInOrder 2 = .ok (.aload_n 0, 1) := by decide +kernel
theorem dL_boatInOrder_3 : decode cL_boatInOrder 3 = .ok (.iload_n 1, 1) := by decide +kernel
theorem dL_boatInOrder_4 : decode cL_boatInOrder 4 = .ok (.invokevirtual 95, 3) := by decide +kernel
theorem dL_boatInOrder_7 : decode cL_boatInOrder 7 = .ok (.i2l, 1) := by decide +kernel
theorem dL_boatInOrder_8 : decode cL_boatInOrder 8 = .ok (.lastore, 1) := by decide +kernel
theorem dL_boatInOrder_9 : decode cL_boatInOrder 9 = .ok (.goto 6, 3) := by decide +kernel
theorem dL_boatInOrder_12 : decode cL_boatInOrder 12 = .ok (.astore_n 3, 1) := by decide +kernel
theorem dL_boatInOrder_13 : decode cL_boatInOrder 13 = .ok (.iconst 1, 1) := by decide +kernel
theorem dL_boatInOrder_14 : decode cL_boatInOrder 14 = .ok (.ireturn, 1) := by decide +kernel
theorem dL_boatInOrder_15 : decode cL_boatInOrder 15 = .ok (.iconst 0, 1) := by decide +kernel
theorem dL_boatInOrder_16 : decode cL_boatInOrder 16 = .ok (.ireturn, 1) := by decide +kernel
theorem dL_floats_0 : decode cL_floats 0 = .ok (.aload_n 3, 1) := by decide +kernel
theorem dL_floats_1 : decode cL_floats 1 = .ok (.iconst 0, 1) := by decide +kernel
theorem dL_floats_2 : decode cL_floats 2 = .ok (.aload_n 0, 1) := by decide +kernel
theorem dL_floats_3 : decode cL_floats 3 = .ok (.iload_n 1, 1) := by decide +kernel
theorem dL_floats_4 : decode cL_floats 4 = .ok (.iload_n 2, 1) := by decide +kernel
theorem dL_floats_5 : decode cL_floats 5 = .ok (.invokevirtual 98, 3) := by decide +kernel
theorem dL_floats_8 : decode cL_floats 8 = .ok (.ifCond .eq 7, 3) := by decide +kernel
theorem dL_floats_11 : decode cL_floats 11 = .ok (.lconst 1, 1) := by decide +kernel
theorem dL_floats_12 : decode cL_floats 12 = .ok (.goto 4, 3) := by decide +kernel
theorem dL_floats_15 : decode cL_floats 15 = .ok (.lconst 0, 1) := by decide +kernel
theorem dL_floats_16 : decode cL_floats 16 = .ok (.lastore, 1) := by decide +kernel
theorem dL_floats_17 : decode cL_floats 17 = .ok (.goto 7, 3) := by decide +kernel
theorem dL_floats_20 : decode cL_floats 20 = .ok (.astore 4, 2) := by decide +kernel
theorem dL_floats_22 : decode cL_floats 22 = .ok (.iconst 1, 1) := by decide +kernel
theorem dL_floats_23 : decode cL_floats 23 = .ok (.ireturn, 1) := by decide +kernel
theorem dL_floats_24 : decode cL_floats 24 = .ok (.iconst 0, 1) := by decide +kernel
theorem dL_floats_25 : decode cL_floats 25 = .ok (.ireturn, 1) := by decide +kernel
theorem dL_leftTotal_0 : decode cL_leftTotal 0 = .ok (.aload_n 2, 1) := by decide +kernel
theorem dL_leftTotal_1 : decode cL_leftTotal 1 = .ok (.iconst 0, 1) := by decide +kernel
theorem dL_leftTotal_2 : decode cL_leftTotal 2 = .ok (.aload_n 0, 1) := by decide +kernel
theorem dL_leftTotal_3 : decode cL_leftTotal 3 = .ok (.iload_n 1, 1) := by decide +kernel
theorem dL_leftTotal_4 : decode cL_leftTotal 4 = .ok (.invokevirtual 101, 3) := by decide +kernel
theorem dL_leftTotal_7 : decode cL_leftTotal 7 = .ok (.i2l, 1) := by decide +kernel
theorem dL_leftTotal_8 : decode cL_leftTotal 8 = .ok (.lastore, 1) := by decide +kernel
theorem dL_leftTotal_9 : decode cL_leftTotal 9 = .ok (.goto 6, 3) := by decide +kernel
theorem dL_leftTotal_12 : decode cL_leftTotal 12 = .ok (.astore_n 3, 1) := by decide +kernel
theorem dL_leftTotal_13 : decode cL_leftTotal 13 = .ok (.iconst 1, 1) := by decide +kernel
theorem dL_leftTotal_14 : decode cL_leftTotal 14 = .ok (.ireturn, 1) := by decide +kernel
theorem dL_leftTotal_15 : decode cL_leftTotal 15 = .ok (.iconst 0, 1) := by decide +kernel
theorem dL_leftTotal_16 : decode cL_leftTotal 16 = .ok (.ireturn, 1) := by decide +kernel
theorem dL_minutesUntilLeaving_0 : decode cL_minutesUntilLeaving 0 = .ok (.aload_n 2, 1) := by decide +kernel
theorem dL_minutesUntilLeaving_1 : decode cL_minutesUntilLeaving 1 = .ok (.iconst 0, 1) := by decide +kernel
theorem dL_minutesUntilLeaving_2 : decode cL_minutesUntilLeaving 2 = .ok (.aload_n 0, 1) := by decide +kernel
theorem dL_minutesUntilLeaving_3 : decode cL_minutesUntilLeaving 3 = .ok (.iload_n 1, 1) := by decide +kernel
theorem dL_minutesUntilLeaving_4 : decode cL_minutesUntilLeaving 4 = .ok (.invokevirtual 105, 3) := by decide +kernel
theorem dL_minutesUntilLeaving_7 : decode cL_minutesUntilLeaving 7 = .ok (.i2l, 1) := by decide +kernel
theorem dL_minutesUntilLeaving_8 : decode cL_minutesUntilLeaving 8 = .ok (.lastore, 1) := by decide +kernel
theorem dL_minutesUntilLeaving_9 : decode cL_minutesUntilLeaving 9 = .ok (.goto 9, 3) := by decide +kernel
theorem dL_minutesUntilLeaving_12 : decode cL_minutesUntilLeaving 12 = .ok (.astore_n 3, 1) := by decide +kernel
theorem dL_minutesUntilLeaving_13 : decode cL_minutesUntilLeaving 13 = .ok (.iconst 1, 1) := by decide +kernel
theorem dL_minutesUntilLeaving_14 : decode cL_minutesUntilLeaving 14 = .ok (.ireturn, 1) := by decide +kernel
theorem dL_minutesUntilLeaving_15 : decode cL_minutesUntilLeaving 15 = .ok (.astore_n 3, 1) := by decide +kernel
theorem dL_minutesUntilLeaving_16 : decode cL_minutesUntilLeaving 16 = .ok (.iconst 2, 1) := by decide +kernel
theorem dL_minutesUntilLeaving_17 : decode cL_minutesUntilLeaving 17 = .ok (.ireturn, 1) := by decide +kernel
theorem dL_minutesUntilLeaving_18 : decode cL_minutesUntilLeaving 18 = .ok (.iconst 0, 1) := by decide +kernel
theorem dL_minutesUntilLeaving_19 : decode cL_minutesUntilLeaving 19 = .ok (.ireturn, 1) := by decide +kernel
theorem dL_minutesUntilEqual_0 : decode cL_minutesUntilEqual 0 = .ok (.aload_n 2, 1) := by decide +kernel
theorem dL_minutesUntilEqual_1 : decode cL_minutesUntilEqual 1 = .ok (.iconst 0, 1) := by decide +kernel
theorem dL_minutesUntilEqual_2 : decode cL_minutesUntilEqual 2 = .ok (.aload_n 0, 1) := by decide +kernel
theorem dL_minutesUntilEqual_3 : decode cL_minutesUntilEqual 3 = .ok (.iload_n 1, 1) := by decide +kernel
theorem dL_minutesUntilEqual_4 : decode cL_minutesUntilEqual 4 = .ok (.invokevirtual 108, 3) := by decide +kernel
theorem dL_minutesUntilEqual_7 : decode cL_minutesUntilEqual 7 = .ok (.i2l, 1) := by decide +kernel
theorem dL_minutesUntilEqual_8 : decode cL_minutesUntilEqual 8 = .ok (.lastore, 1) := by decide +kernel
theorem dL_minutesUntilEqual_9 : decode cL_minutesUntilEqual 9 = .ok (.goto 9, 3) := by decide +kernel
theorem dL_minutesUntilEqual_12 : decode cL_minutesUntilEqual 12 = .ok (.astore_n 3, 1) := by decide +kernel
theorem dL_minutesUntilEqual_13 : decode cL_minutesUntilEqual 13 = .ok (.iconst 1, 1) := by decide +kernel
theorem dL_minutesUntilEqual_14 : decode cL_minutesUntilEqual 14 = .ok (.ireturn, 1) := by decide +kernel
theorem dL_minutesUntilEqual_15 : decode cL_minutesUntilEqual 15 = .ok (.astore_n 3, 1) := by decide +kernel
theorem dL_minutesUntilEqual_16 : decode cL_minutesUntilEqual 16 = .ok (.iconst 2, 1) := by decide +kernel
theorem dL_minutesUntilEqual_17 : decode cL_minutesUntilEqual 17 = .ok (.ireturn, 1) := by decide +kernel
theorem dL_minutesUntilEqual_18 : decode cL_minutesUntilEqual 18 = .ok (.iconst 0, 1) := by decide +kernel
theorem dL_minutesUntilEqual_19 : decode cL_minutesUntilEqual 19 = .ok (.ireturn, 1) := by decide +kernel
theorem dL_volumeAfter_0 : decode cL_volumeAfter 0 = .ok (.aload_n 3, 1) := by decide +kernel
theorem dL_volumeAfter_1 : decode cL_volumeAfter 1 = .ok (.iconst 0, 1) := by decide +kernel
theorem dL_volumeAfter_2 : decode cL_volumeAfter 2 = .ok (.aload_n 0, 1) := by decide +kernel
theorem dL_volumeAfter_3 : decode cL_volumeAfter 3 = .ok (.iload_n 1, 1) := by decide +kernel
theorem dL_volumeAfter_4 : decode cL_volumeAfter 4 = .ok (.iload_n 2, 1) := by decide +kernel
theorem dL_volumeAfter_5 : decode cL_volumeAfter 5 = .ok (.invokevirtual 111, 3) := by decide +kernel
theorem dL_volumeAfter_8 : decode cL_volumeAfter 8 = .ok (.i2l, 1) := by decide +kernel
theorem dL_volumeAfter_9 : decode cL_volumeAfter 9 = .ok (.lastore, 1) := by decide +kernel
theorem dL_volumeAfter_10 : decode cL_volumeAfter 10 = .ok (.goto 11, 3) := by decide +kernel
theorem dL_volumeAfter_13 : decode cL_volumeAfter 13 = .ok (.astore 4, 2) := by decide +kernel
theorem dL_volumeAfter_15 : decode cL_volumeAfter 15 = .ok (.iconst 1, 1) := by decide +kernel
theorem dL_volumeAfter_16 : decode cL_volumeAfter 16 = .ok (.ireturn, 1) := by decide +kernel
theorem dL_volumeAfter_17 : decode cL_volumeAfter 17 = .ok (.astore 4, 2) := by decide +kernel
theorem dL_volumeAfter_19 : decode cL_volumeAfter 19 = .ok (.iconst 2, 1) := by decide +kernel
theorem dL_volumeAfter_20 : decode cL_volumeAfter 20 = .ok (.ireturn, 1) := by decide +kernel
theorem dL_volumeAfter_21 : decode cL_volumeAfter 21 = .ok (.iconst 0, 1) := by decide +kernel
theorem dL_volumeAfter_22 : decode cL_volumeAfter 22 = .ok (.ireturn, 1) := by decide +kernel
theorem dL_eventKind_0 : decode cL_eventKind 0 = .ok (.aload_n 2, 1) := by decide +kernel
theorem dL_eventKind_1 : decode cL_eventKind 1 = .ok (.iconst 0, 1) := by decide +kernel
theorem dL_eventKind_2 : decode cL_eventKind 2 = .ok (.aload_n 0, 1) := by decide +kernel
theorem dL_eventKind_3 : decode cL_eventKind 3 = .ok (.iload_n 1, 1) := by decide +kernel
theorem dL_eventKind_4 : decode cL_eventKind 4 = .ok (.invokevirtual 114, 3) := by decide +kernel
theorem dL_eventKind_7 : decode cL_eventKind 7 = .ok (.i2l, 1) := by decide +kernel
theorem dL_eventKind_8 : decode cL_eventKind 8 = .ok (.lastore, 1) := by decide +kernel
theorem dL_eventKind_9 : decode cL_eventKind 9 = .ok (.goto 6, 3) := by decide +kernel
theorem dL_eventKind_12 : decode cL_eventKind 12 = .ok (.astore_n 3, 1) := by decide +kernel
theorem dL_eventKind_13 : decode cL_eventKind 13 = .ok (.iconst 1, 1) := by decide +kernel
theorem dL_eventKind_14 : decode cL_eventKind 14 = .ok (.ireturn, 1) := by decide +kernel
theorem dL_eventKind_15 : decode cL_eventKind 15 = .ok (.iconst 0, 1) := by decide +kernel
theorem dL_eventKind_16 : decode cL_eventKind 16 = .ok (.ireturn, 1) := by decide +kernel
theorem dL_eventNumber_0 : decode cL_eventNumber 0 = .ok (.aload_n 2, 1) := by decide +kernel
theorem dL_eventNumber_1 : decode cL_eventNumber 1 = .ok (.iconst 0, 1) := by decide +kernel
theorem dL_eventNumber_2 : decode cL_eventNumber 2 = .ok (.aload_n 0, 1) := by decide +kernel
theorem dL_eventNumber_3 : decode cL_eventNumber 3 = .ok (.iload_n 1, 1) := by decide +kernel
theorem dL_eventNumber_4 : decode cL_eventNumber 4 = .ok (.invokevirtual 117, 3) := by decide +kernel
theorem dL_eventNumber_7 : decode cL_eventNumber 7 = .ok (.i2l, 1) := by decide +kernel
theorem dL_eventNumber_8 : decode cL_eventNumber 8 = .ok (.lastore, 1) := by decide +kernel
theorem dL_eventNumber_9 : decode cL_eventNumber 9 = .ok (.goto 6, 3) := by decide +kernel
theorem dL_eventNumber_12 : decode cL_eventNumber 12 = .ok (.astore_n 3, 1) := by decide +kernel
theorem dL_eventNumber_13 : decode cL_eventNumber 13 = .ok (.iconst 1, 1) := by decide +kernel
theorem dL_eventNumber_14 : decode cL_eventNumber 14 = .ok (.ireturn, 1) := by decide +kernel
theorem dL_eventNumber_15 : decode cL_eventNumber 15 = .ok (.iconst 0, 1) := by decide +kernel
theorem dL_eventNumber_16 : decode cL_eventNumber 16 = .ok (.ireturn, 1) := by decide +kernel
theorem dL_renderBoat_0 : decode cL_renderBoat 0 = .ok (.aload_n 2, 1) := by decide +kernel
theorem dL_renderBoat_1 : decode cL_renderBoat 1 = .ok (.iconst 0, 1) := by decide +kernel
theorem dL_renderBoat_2 : decode cL_renderBoat 2 = .ok (.aload_n 0, 1) := by decide +kernel
theorem dL_renderBoat_3 : decode cL_renderBoat 3 = .ok (.iload_n 1, 1) := by decide +kernel
theorem dL_renderBoat_4 : decode cL_renderBoat 4 = .ok (.invokevirtual 120, 3) := by decide +kernel
theorem dL_renderBoat_7 : decode cL_renderBoat 7 = .ok (.i2l, 1) := by decide +kernel
theorem dL_renderBoat_8 : decode cL_renderBoat 8 = .ok (.lastore, 1) := by decide +kernel
theorem dL_renderBoat_9 : decode cL_renderBoat 9 = .ok (.goto 6, 3) := by decide +kernel
theorem dL_renderBoat_12 : decode cL_renderBoat 12 = .ok (.astore_n 3, 1) := by decide +kernel
theorem dL_renderBoat_13 : decode cL_renderBoat 13 = .ok (.iconst 1, 1) := by decide +kernel
theorem dL_renderBoat_14 : decode cL_renderBoat 14 = .ok (.ireturn, 1) := by decide +kernel
theorem dL_renderBoat_15 : decode cL_renderBoat 15 = .ok (.iconst 0, 1) := by decide +kernel
theorem dL_renderBoat_16 : decode cL_renderBoat 16 = .ok (.ireturn, 1) := by decide +kernel
theorem dL_outputAt_0 : decode cL_outputAt 0 = .ok (.aload_n 2, 1) := by decide +kernel
theorem dL_outputAt_1 : decode cL_outputAt 1 = .ok (.iconst 0, 1) := by decide +kernel
theorem dL_outputAt_2 : decode cL_outputAt 2 = .ok (.aload_n 0, 1) := by decide +kernel
theorem dL_outputAt_3 : decode cL_outputAt 3 = .ok (.iload_n 1, 1) := by decide +kernel
theorem dL_outputAt_4 : decode cL_outputAt 4 = .ok (.invokevirtual 123, 3) := by decide +kernel
theorem dL_outputAt_7 : decode cL_outputAt 7 = .ok (.i2l, 1) := by decide +kernel
theorem dL_outputAt_8 : decode cL_outputAt 8 = .ok (.lastore, 1) := by decide +kernel
theorem dL_outputAt_9 : decode cL_outputAt 9 = .ok (.goto 6, 3) := by decide +kernel
theorem dL_outputAt_12 : decode cL_outputAt 12 = .ok (.astore_n 3, 1) := by decide +kernel
theorem dL_outputAt_13 : decode cL_outputAt 13 = .ok (.iconst 1, 1) := by decide +kernel
theorem dL_outputAt_14 : decode cL_outputAt 14 = .ok (.ireturn, 1) := by decide +kernel
theorem dL_outputAt_15 : decode cL_outputAt 15 = .ok (.iconst 0, 1) := by decide +kernel
theorem dL_outputAt_16 : decode cL_outputAt 16 = .ok (.ireturn, 1) := by decide +kernel
theorem dL_type_0 : decode cL_type 0 = .ok (.aload_n 2, 1) := by decide +kernel
theorem dL_type_1 : decode cL_type 1 = .ok (.iconst 0, 1) := by decide +kernel
theorem dL_type_2 : decode cL_type 2 = .ok (.aload_n 0, 1) := by decide +kernel
theorem dL_type_3 : decode cL_type 3 = .ok (.iload_n 1, 1) := by decide +kernel
theorem dL_type_4 : decode cL_type 4 = .ok (.invokevirtual 126, 3) := by decide +kernel
theorem dL_type_7 : decode cL_type 7 = .ok (.i2l, 1) := by decide +kernel
theorem dL_type_8 : decode cL_type 8 = .ok (.lastore, 1) := by decide +kernel
theorem dL_type_9 : decode cL_type 9 = .ok (.goto 9, 3) := by decide +kernel
theorem dL_type_12 : decode cL_type 12 = .ok (.astore_n 3, 1) := by decide +kernel
theorem dL_type_13 : decode cL_type 13 = .ok (.iconst 1, 1) := by decide +kernel
theorem dL_type_14 : decode cL_type 14 = .ok (.ireturn, 1) := by decide +kernel
theorem dL_type_15 : decode cL_type 15 = .ok (.astore_n 3, 1) := by decide +kernel
theorem dL_type_16 : decode cL_type 16 = .ok (.iconst 2, 1) := by decide +kernel
theorem dL_type_17 : decode cL_type 17 = .ok (.ireturn, 1) := by decide +kernel
theorem dL_type_18 : decode cL_type 18 = .ok (.iconst 0, 1) := by decide +kernel
theorem dL_type_19 : decode cL_type 19 = .ok (.ireturn, 1) := by decide +kernel
theorem dL_runScript_0 : decode cL_runScript 0 = .ok (.aload_n 1, 1) := by decide +kernel
theorem dL_runScript_1 : decode cL_runScript 1 = .ok (.iconst 0, 1) := by decide +kernel
theorem dL_runScript_2 : decode cL_runScript 2 = .ok (.aload_n 0, 1) := by decide +kernel
theorem dL_runScript_3 : decode cL_runScript 3 = .ok (.invokevirtual 129, 3) := by decide +kernel
theorem dL_runScript_6 : decode cL_runScript 6 = .ok (.i2l, 1) := by decide +kernel
theorem dL_runScript_7 : decode cL_runScript 7 = .ok (.lastore, 1) := by decide +kernel
theorem dL_runScript_8 : decode cL_runScript 8 = .ok (.goto 9, 3) := by decide +kernel
theorem dL_runScript_11 : decode cL_runScript 11 = .ok (.astore_n 2, 1) := by decide +kernel
theorem dL_runScript_12 : decode cL_runScript 12 = .ok (.iconst 1, 1) := by decide +kernel
theorem dL_runScript_13 : decode cL_runScript 13 = .ok (.ireturn, 1) := by decide +kernel
theorem dL_runScript_14 : decode cL_runScript 14 = .ok (.astore_n 2, 1) := by decide +kernel
theorem dL_runScript_15 : decode cL_runScript 15 = .ok (.iconst 2, 1) := by decide +kernel
theorem dL_runScript_16 : decode cL_runScript 16 = .ok (.ireturn, 1) := by decide +kernel
theorem dL_runScript_17 : decode cL_runScript 17 = .ok (.iconst 0, 1) := by decide +kernel
theorem dL_runScript_18 : decode cL_runScript 18 = .ok (.ireturn, 1) := by decide +kernel
theorem dL_errorPosition_0 : decode cL_errorPosition 0 = .ok (.aload_n 1, 1) := by decide +kernel
theorem dL_errorPosition_1 : decode cL_errorPosition 1 = .ok (.iconst 0, 1) := by decide +kernel
theorem dL_errorPosition_2 : decode cL_errorPosition 2 = .ok (.aload_n 0, 1) := by decide +kernel
theorem dL_errorPosition_3 : decode cL_errorPosition 3 = .ok (.invokevirtual 133, 3) := by decide +kernel
theorem dL_errorPosition_6 : decode cL_errorPosition 6 = .ok (.i2l, 1) := by decide +kernel
theorem dL_errorPosition_7 : decode cL_errorPosition 7 = .ok (.lastore, 1) := by decide +kernel
theorem dL_errorPosition_8 : decode cL_errorPosition 8 = .ok (.goto 6, 3) := by decide +kernel
theorem dL_errorPosition_11 : decode cL_errorPosition 11 = .ok (.astore_n 2, 1) := by decide +kernel
theorem dL_errorPosition_12 : decode cL_errorPosition 12 = .ok (.iconst 1, 1) := by decide +kernel
theorem dL_errorPosition_13 : decode cL_errorPosition 13 = .ok (.ireturn, 1) := by decide +kernel
theorem dL_errorPosition_14 : decode cL_errorPosition 14 = .ok (.iconst 0, 1) := by decide +kernel
theorem dL_errorPosition_15 : decode cL_errorPosition 15 = .ok (.ireturn, 1) := by decide +kernel
theorem dL_failedCommand_0 : decode cL_failedCommand 0 = .ok (.aload_n 1, 1) := by decide +kernel
theorem dL_failedCommand_1 : decode cL_failedCommand 1 = .ok (.iconst 0, 1) := by decide +kernel
theorem dL_failedCommand_2 : decode cL_failedCommand 2 = .ok (.aload_n 0, 1) := by decide +kernel
theorem dL_failedCommand_3 : decode cL_failedCommand 3 = .ok (.invokevirtual 136, 3) := by decide +kernel
theorem dL_failedCommand_6 : decode cL_failedCommand 6 = .ok (.i2l, 1) := by decide +kernel
theorem dL_failedCommand_7 : decode cL_failedCommand 7 = .ok (.lastore, 1) := by decide +kernel
theorem dL_failedCommand_8 : decode cL_failedCommand 8 = .ok (.goto 6, 3) := by decide +kernel
theorem dL_failedCommand_11 : decode cL_failedCommand 11 = .ok (.astore_n 2, 1) := by decide +kernel
theorem dL_failedCommand_12 : decode cL_failedCommand 12 = .ok (.iconst 1, 1) := by decide +kernel
theorem dL_failedCommand_13 : decode cL_failedCommand 13 = .ok (.ireturn, 1) := by decide +kernel
theorem dL_failedCommand_14 : decode cL_failedCommand 14 = .ok (.iconst 0, 1) := by decide +kernel
theorem dL_failedCommand_15 : decode cL_failedCommand 15 = .ok (.ireturn, 1) := by decide +kernel
theorem dL_undo_0 : decode cL_undo 0 = .ok (.aload_n 1, 1) := by decide +kernel
theorem dL_undo_1 : decode cL_undo 1 = .ok (.iconst 0, 1) := by decide +kernel
theorem dL_undo_2 : decode cL_undo 2 = .ok (.aload_n 0, 1) := by decide +kernel
theorem dL_undo_3 : decode cL_undo 3 = .ok (.invokevirtual 139, 3) := by decide +kernel
theorem dL_undo_6 : decode cL_undo 6 = .ok (.i2l, 1) := by decide +kernel
theorem dL_undo_7 : decode cL_undo 7 = .ok (.lastore, 1) := by decide +kernel
theorem dL_undo_8 : decode cL_undo 8 = .ok (.goto 6, 3) := by decide +kernel
theorem dL_undo_11 : decode cL_undo 11 = .ok (.astore_n 2, 1) := by decide +kernel
theorem dL_undo_12 : decode cL_undo 12 = .ok (.iconst 1, 1) := by decide +kernel
theorem dL_undo_13 : decode cL_undo 13 = .ok (.ireturn, 1) := by decide +kernel
theorem dL_undo_14 : decode cL_undo 14 = .ok (.iconst 0, 1) := by decide +kernel
theorem dL_undo_15 : decode cL_undo 15 = .ok (.ireturn, 1) := by decide +kernel
theorem dL_restore_0 : decode cL_restore 0 = .ok (.aload_n 1, 1) := by decide +kernel
theorem dL_restore_1 : decode cL_restore 1 = .ok (.iconst 0, 1) := by decide +kernel
theorem dL_restore_2 : decode cL_restore 2 = .ok (.aload_n 0, 1) := by decide +kernel
theorem dL_restore_3 : decode cL_restore 3 = .ok (.invokevirtual 142, 3) := by decide +kernel
theorem dL_restore_6 : decode cL_restore 6 = .ok (.i2l, 1) := by decide +kernel
theorem dL_restore_7 : decode cL_restore 7 = .ok (.lastore, 1) := by decide +kernel
theorem dL_restore_8 : decode cL_restore 8 = .ok (.goto 6, 3) := by decide +kernel
theorem dL_restore_11 : decode cL_restore 11 = .ok (.astore_n 2, 1) := by decide +kernel
theorem dL_restore_12 : decode cL_restore 12 = .ok (.iconst 1, 1) := by decide +kernel
theorem dL_restore_13 : decode cL_restore 13 = .ok (.ireturn, 1) := by decide +kernel
theorem dL_restore_14 : decode cL_restore 14 = .ok (.iconst 0, 1) := by decide +kernel
theorem dL_restore_15 : decode cL_restore 15 = .ok (.ireturn, 1) := by decide +kernel
