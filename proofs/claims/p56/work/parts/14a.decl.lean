theorem dL_cell_0 : decode cL_cell 0 = .ok (.iload_n 1, 1) := by decide +kernel
theorem dL_cell_1 : decode cL_cell 1 = .ok (.aload_n 0, 1) := by decide +kernel
theorem dL_cell_2 : decode cL_cell 2 = .ok (.arraylength, 1) := by decide +kernel
theorem dL_cell_3 : decode cL_cell 3 = .ok (.if_icmp .ge 9, 3) := by decide +kernel
theorem dL_cell_6 : decode cL_cell 6 = .ok (.aload_n 0, 1) := by decide +kernel
theorem dL_cell_7 : decode cL_cell 7 = .ok (.iload_n 1, 1) := by decide +kernel
theorem dL_cell_8 : decode cL_cell 8 = .ok (.iaload, 1) := by decide +kernel
theorem dL_cell_9 : decode cL_cell 9 = .ok (.goto 11, 3) := by decide +kernel
theorem dL_cell_12 : decode cL_cell 12 = .ok (.sipush 7919, 3) := by decide +kernel
theorem dL_cell_15 : decode cL_cell 15 = .ok (.iload_n 1, 1) := by decide +kernel
theorem dL_cell_16 : decode cL_cell 16 = .ok (.imul, 1) := by decide +kernel
theorem dL_cell_17 : decode cL_cell 17 = .ok (.bipush 12, 2) := by decide +kernel
theorem dL_cell_19 : decode cL_cell 19 = .ok (.iadd, 1) := by decide +kernel
theorem dL_cell_20 : decode cL_cell 20 = .ok (.ireturn, 1) := by decide +kernel
theorem dL_some_0 : decode cL_some 0 = .ok (.aload_n 0, 1) := by decide +kernel
theorem dL_some_1 : decode cL_some 1 = .ok (.iload_n 1, 1) := by decide +kernel
theorem dL_some_2 : decode cL_some 2 = .ok (.invokestatic 7, 3) := by decide +kernel
theorem dL_some_5 : decode cL_some 5 = .ok (.iconst 3, 1) := by decide +kernel
theorem dL_some_6 : decode cL_some 6 = .ok (.iushr, 1) := by decide +kernel
theorem dL_some_7 : decode cL_some 7 = .ok (.iload_n 2, 1) := by decide +kernel
theorem dL_some_8 : decode cL_some 8 = .ok (.irem, 1) := by decide +kernel
theorem dL_some_9 : decode cL_some 9 = .ok (.ireturn, 1) := by decide +kernel
theorem dL_addBoat_0 : decode cL_addBoat 0 = .ok (.aload_n 0, 1) := by decide +kernel
theorem dL_addBoat_1 : decode cL_addBoat 1 = .ok (.iload_n 1, 1) := by decide +kernel
theorem dL_addBoat_2 : decode cL_addBoat 2 = .ok (.iload_n 2, 1) := by decide +kernel
theorem dL_addBoat_3 : decode cL_addBoat 3 = .ok (.iload_n 3, 1) := by decide +kernel
theorem dL_addBoat_4 : decode cL_addBoat 4 = .ok (.invokevirtual 13, 3) := by decide +kernel
theorem dL_addBoat_7 : decode cL_addBoat 7 = .ok (.ireturn, 1) := by decide +kernel
theorem dL_addBoat_8 : decode cL_addBoat 8 = .ok (.astore 4, 2) := by decide +kernel
theorem dL_addBoat_10 : decode cL_addBoat 10 = .ok (.sipush (-20000), 3) := by decide +kernel
theorem dL_addBoat_13 : decode cL_addBoat 13 = .ok (.ireturn, 1) := by decide +kernel
theorem dL_addBoat_14 : decode cL_addBoat 14 = .ok (.astore 4, 2) := by decide +kernel
theorem dL_addBoat_16 : decode cL_addBoat 16 = .ok (.sipush (-10000), 3) := by decide +kernel
theorem dL_addBoat_19 : decode cL_addBoat 19 = .ok (.ireturn, 1) := by decide +kernel
theorem dL_setValve_0 : decode cL_setValve 0 = .ok (.aload_n 0, 1) := by decide +kernel
theorem dL_setValve_1 : decode cL_setValve 1 = .ok (.iload_n 1, 1) := by decide +kernel
theorem dL_setValve_2 : decode cL_setValve 2 = .ok (.iload_n 2, 1) := by decide +kernel
theorem dL_setValve_3 : decode cL_setValve 3 = .ok (.invokevirtual 23, 3) := by decide +kernel
theorem dL_setValve_6 : decode cL_setValve 6 = .ok (.ireturn, 1) := by decide +kernel
theorem dL_setValve_7 : decode cL_setValve 7 = .ok (.astore_n 3, 1) := by decide +kernel
theorem dL_setValve_8 : decode cL_setValve 8 = .ok (.sipush (-25000), 3) := by decide +kernel
theorem dL_setValve_11 : decode cL_setValve 11 = .ok (.ireturn, 1) := by decide +kernel
theorem dL_setValve_12 : decode cL_setValve 12 = .ok (.astore_n 3, 1) := by decide +kernel
theorem dL_setValve_13 : decode cL_setValve 13 = .ok (.sipush (-20000), 3) := by decide +kernel
theorem dL_setValve_16 : decode cL_setValve 16 = .ok (.ireturn, 1) := by decide +kernel
theorem dL_openGate_0 : decode cL_openGate 0 = .ok (.aload_n 0, 1) := by decide +kernel
theorem dL_openGate_1 : decode cL_openGate 1 = .ok (.iload_n 1, 1) := by decide +kernel
theorem dL_openGate_2 : decode cL_openGate 2 = .ok (.invokevirtual 29, 3) := by decide +kernel
theorem dL_openGate_5 : decode cL_openGate 5 = .ok (.ireturn, 1) := by decide +kernel
theorem dL_openGate_6 : decode cL_openGate 6 = .ok (.astore_n 2, 1) := by decide +kernel
theorem dL_openGate_7 : decode cL_openGate 7 = .ok (.sipush (-25000), 3) := by decide +kernel
theorem dL_openGate_10 : decode cL_openGate 10 = .ok (.ireturn, 1) := by decide +kernel
theorem dL_openGate_11 : decode cL_openGate 11 = .ok (.astore_n 2, 1) := by decide +kernel
theorem dL_openGate_12 : decode cL_openGate 12 = .ok (.sipush (-10000), 3) := by decide +kernel
theorem dL_openGate_15 : decode cL_openGate 15 = .ok (.ireturn, 1) := by decide +kernel
theorem dL_openGate_16 : decode cL_openGate 16 = .ok (.astore_n 2, 1) := by decide +kernel
theorem dL_openGate_17 : decode cL_openGate 17 = .ok (.sipush (-15000), 3) := by decide +kernel
theorem dL_openGate_20 : decode cL_openGate 20 = .ok (.ireturn, 1) := by decide +kernel
theorem dL_shutGate_0 : decode cL_shutGate 0 = .ok (.aload_n 0, 1) := by decide +kernel
theorem dL_shutGate_1 : decode cL_shutGate 1 = .ok (.iload_n 1, 1) := by decide +kernel
theorem dL_shutGate_2 : decode cL_shutGate 2 = .ok (.invokevirtual 35, 3) := by decide +kernel
theorem dL_shutGate_5 : decode cL_shutGate 5 = .ok (.ireturn, 1) := by decide +kernel
theorem dL_shutGate_6 : decode cL_shutGate 6 = .ok (.astore_n 2, 1) := by decide +kernel
theorem dL_shutGate_7 : decode cL_shutGate 7 = .ok (.sipush (-25000), 3) := by decide +kernel
theorem dL_shutGate_10 : decode cL_shutGate 10 = .ok (.ireturn, 1) := by decide +kernel
theorem dL_shutGate_11 : decode cL_shutGate 11 = .ok (.astore_n 2, 1) := by decide +kernel
theorem dL_shutGate_12 : decode cL_shutGate 12 = .ok (.sipush (-10000), 3) := by decide +kernel
theorem dL_shutGate_15 : decode cL_shutGate 15 = .ok (.ireturn, 1) := by decide +kernel
theorem dL_setRain_0 : decode cL_setRain 0 = .ok (.aload_n 0, 1) := by decide +kernel
theorem dL_setRain_1 : decode cL_setRain 1 = .ok (.iload_n 1, 1) := by decide +kernel
theorem dL_setRain_2 : decode cL_setRain 2 = .ok (.invokevirtual 38, 3) := by decide +kernel
theorem dL_setRain_5 : decode cL_setRain 5 = .ok (.ireturn, 1) := by decide +kernel
theorem dL_setRain_6 : decode cL_setRain 6 = .ok (.astore_n 2, 1) := by decide +kernel
theorem dL_setRain_7 : decode cL_setRain 7 = .ok (.sipush (-20000), 3) := by decide +kernel
theorem dL_setRain_10 : decode cL_setRain 10 = .ok (.ireturn, 1) := by decide +kernel
theorem dL_setDrain_0 : decode cL_setDrain 0 = .ok (.aload_n 0, 1) := by decide +kernel
theorem dL_setDrain_1 : decode cL_setDrain 1 = .ok (.iload_n 1, 1) := by decide +kernel
theorem dL_setDrain_2 : decode cL_setDrain 2 = .ok (.invokevirtual 41, 3) := by decide +kernel
theorem dL_setDrain_5 : decode cL_setDrain 5 = .ok (.ireturn, 1) := by decide +kernel
theorem dL_setDrain_6 : decode cL_setDrain 6 = .ok (.astore_n 2, 1) := by decide +kernel
theorem dL_setDrain_7 : decode cL_setDrain 7 = .ok (.sipush (-20000), 3) := by decide +kernel
theorem dL_setDrain_10 : decode cL_setDrain 10 = .ok (.ireturn, 1) := by decide +kernel
theorem dL_advance_0 : decode cL_advance 0 = .ok (.aload_n 0, 1) := by decide +kernel
theorem dL_advance_1 : decode cL_advance 1 = .ok (.iload_n 1, 1) := by decide +kernel
theorem dL_advance_2 : decode cL_advance 2 = .ok (.invokevirtual 44, 3) := by decide +kernel
theorem dL_advance_5 : decode cL_advance 5 = .ok (.ireturn, 1) := by decide +kernel
theorem dL_advance_6 : decode cL_advance 6 = .ok (.astore_n 2, 1) := by decide +kernel
theorem dL_advance_7 : decode cL_advance 7 = .ok (.sipush (-20000), 3) := by decide +kernel
theorem dL_advance_10 : decode cL_advance 10 = .ok (.ireturn, 1) := by decide +kernel
theorem dL_basinByLevel_0 : decode cL_basinByLevel 0 = .ok (.aload_n 0, 1) := by decide +kernel
theorem dL_basinByLevel_1 : decode cL_basinByLevel 1 = .ok (.iload_n 1, 1) := by decide +kernel
theorem dL_basinByLevel_2 : decode cL_basinByLevel 2 = .ok (.invokevirtual 47, 3) := by decide +kernel
theorem dL_basinByLevel_5 : decode cL_basinByLevel 5 = .ok (.ireturn, 1) := by decide +kernel
theorem dL_basinByLevel_6 : decode cL_basinByLevel 6 = .ok (.astore_n 2, 1) := by decide +kernel
theorem dL_basinByLevel_7 : decode cL_basinByLevel 7 = .ok (.sipush (-30000), 3) := by decide +kernel
theorem dL_basinByLevel_10 : decode cL_basinByLevel 10 = .ok (.ireturn, 1) := by decide +kernel
theorem dL_boatInOrder_0 : decode cL_boatInOrder 0 = .ok (.aload_n 0, 1) := by decide +kernel
theorem dL_boatInOrder_1 : decode cL_boatInOrder 1 = .ok (.iload_n 1, 1) := by decide +kernel
theorem dL_boatInOrder_2 : decode cL_boatInOrder 2 = .ok (.invokevirtual 52, 3) := by decide +kernel
theorem dL_boatInOrder_5 : decode cL_boatInOrder 5 = .ok (.ireturn, 1) := by decide +kernel
theorem dL_boatInOrder_6 : decode cL_boatInOrder 6 = .ok (.astore_n 2, 1) := by decide +kernel
theorem dL_boatInOrder_7 : decode cL_boatInOrder 7 = .ok (.sipush (-30000), 3) := by decide +kernel
theorem dL_boatInOrder_10 : decode cL_boatInOrder 10 = .ok (.ireturn, 1) := by decide +kernel
theorem dL_minutesUntilEqual_0 : decode cL_minutesUntilEqual 0 = .ok (.aload_n 0, 1) := by decide +kernel
theorem dL_minutesUntilEqual_1 : decode cL_minutesUntilEqual 1 = .ok (.iload_n 1, 1) := by decide +kernel
theorem dL_minutesUntilEqual_2 : decode cL_minutesUntilEqual 2 = .ok (.invokevirtual 55, 3) := by decide +kernel
theorem dL_minutesUntilEqual_5 : decode cL_minutesUntilEqual 5 = .ok (.ireturn, 1) := by decide +kernel
theorem dL_minutesUntilEqual_6 : decode cL_minutesUntilEqual 6 = .ok (.astore_n 2, 1) := by decide +kernel
theorem dL_minutesUntilEqual_7 : decode cL_minutesUntilEqual 7 = .ok (.sipush (-25000), 3) := by decide +kernel
theorem dL_minutesUntilEqual_10 : decode cL_minutesUntilEqual 10 = .ok (.ireturn, 1) := by decide +kernel
theorem dL_minutesUntilEqual_11 : decode cL_minutesUntilEqual 11 = .ok (.astore_n 2, 1) := by decide +kernel
theorem dL_minutesUntilEqual_12 : decode cL_minutesUntilEqual 12 = .ok (.sipush (-30000), 3) := by decide +kernel
theorem dL_minutesUntilEqual_15 : decode cL_minutesUntilEqual 15 = .ok (.ireturn, 1) := by decide +kernel
theorem dL_eventKind_0 : decode cL_eventKind 0 = .ok (.aload_n 0, 1) := by decide +kernel
theorem dL_eventKind_1 : decode cL_eventKind 1 = .ok (.iload_n 1, 1) := by decide +kernel
theorem dL_eventKind_2 : decode cL_eventKind 2 = .ok (.invokevirtual 58, 3) := by decide +kernel
theorem dL_eventKind_5 : decode cL_eventKind 5 = .ok (.ireturn, 1) := by decide +kernel
theorem dL_eventKind_6 : decode cL_eventKind 6 = .ok (.astore_n 2, 1) := by decide +kernel
theorem dL_eventKind_7 : decode cL_eventKind 7 = .ok (.sipush (-30000), 3) := by decide +kernel
theorem dL_eventKind_10 : decode cL_eventKind 10 = .ok (.ireturn, 1) := by decide +kernel
theorem dL_eventNumber_0 : decode cL_eventNumber 0 = .ok (.aload_n 0, 1) := by decide +kernel
theorem dL_eventNumber_1 : decode cL_eventNumber 1 = .ok (.iload_n 1, 1) := by decide +kernel
theorem dL_eventNumber_2 : decode cL_eventNumber 2 = .ok (.invokevirtual 62, 3) := by decide +kernel
theorem dL_eventNumber_5 : decode cL_eventNumber 5 = .ok (.ireturn, 1) := by decide +kernel
theorem dL_eventNumber_6 : decode cL_eventNumber 6 = .ok (.astore_n 2, 1) := by decide +kernel
theorem dL_eventNumber_7 : decode cL_eventNumber 7 = .ok (.sipush (-30000), 3) := by decide +kernel
theorem dL_eventNumber_10 : decode cL_eventNumber 10 = .ok (.ireturn, 1) := by decide +kernel
theorem dL_sign_0 : decode cL_sign 0 = .ok (.iload_n 0, 1) := by decide +kernel
theorem dL_sign_1 : decode cL_sign 1 = .ok (.iconst 3, 1) := by decide +kernel
theorem dL_sign_2 : decode cL_sign 2 = .ok (.irem, 1) := by decide +kernel
theorem dL_sign_3 : decode cL_sign 3 = .ok (.ifCond .ne 8, 3) := by decide +kernel
theorem dL_sign_6 : decode cL_sign 6 = .ok (.bipush 114, 2) := by decide +kernel
theorem dL_sign_8 : decode cL_sign 8 = .ok (.goto 17, 3) := by decide +kernel
theorem dL_sign_11 : decode cL_sign 11 = .ok (.iload_n 0, 1) := by decide +kernel
theorem dL_sign_12 : decode cL_sign 12 = .ok (.iconst 3, 1) := by decide +kernel
theorem dL_sign_13 : decode cL_sign 13 = .ok (.irem, 1) := by decide +kernel
theorem dL_sign_14 : decode cL_sign 14 = .ok (.iconst 1, 1) := by decide +kernel
theorem dL_sign_15 : decode cL_sign 15 = .ok (.if_icmp .ne 8, 3) := by decide +kernel
theorem dL_sign_18 : decode cL_sign 18 = .ok (.bipush 103, 2) := by decide +kernel
theorem dL_sign_20 : decode cL_sign 20 = .ok (.goto 5, 3) := by decide +kernel
theorem dL_sign_23 : decode cL_sign 23 = .ok (.bipush 98, 2) := by decide +kernel
theorem dL_sign_25 : decode cL_sign 25 = .ok (.ireturn, 1) := by decide +kernel
theorem dL_build_0 : decode cL_build 0 = .ok (.iconst 0, 1) := by decide +kernel
theorem dL_build_1 : decode cL_build 1 = .ok (.istore_n 3, 1) := by decide +kernel
theorem dL_build_2 : decode cL_build 2 = .ok (.iload_n 3, 1) := by decide +kernel
theorem dL_build_3 : decode cL_build 3 = .ok (.iconst 4, 1) := by decide +kernel
theorem dL_build_4 : decode cL_build 4 = .ok (.if_icmp .ge 21, 3) := by decide +kernel
theorem dL_build_7 : decode cL_build 7 = .ok (.aload_n 0, 1) := by decide +kernel
theorem dL_build_8 : decode cL_build 8 = .ok (.iload_n 3, 1) := by decide +kernel
theorem dL_build_9 : decode cL_build 9 = .ok (.aload_n 1, 1) := by decide +kernel
theorem dL_build_10 : decode cL_build 10 = .ok (.iload_n 3, 1) := by decide +kernel
theorem dL_build_11 : decode cL_build 11 = .ok (.iconst 4, 1) := by decide +kernel
theorem dL_build_12 : decode cL_build 12 = .ok (.invokestatic 65, 3) := by decide +kernel
theorem dL_build_15 : decode cL_build 15 = .ok (.invokestatic 69, 3) := by decide +kernel
theorem dL_build_18 : decode cL_build 18 = .ok (.istore_n 2, 1) := by decide +kernel
theorem dL_build_19 : decode cL_build 19 = .ok (.iinc 3 1, 3) := by decide +kernel
theorem dL_build_22 : decode cL_build 22 = .ok (.goto (-20), 3) := by decide +kernel
theorem dL_build_25 : decode cL_build 25 = .ok (.iconst 0, 1) := by decide +kernel
theorem dL_build_26 : decode cL_build 26 = .ok (.istore_n 3, 1) := by decide +kernel
theorem dL_build_27 : decode cL_build 27 = .ok (.iload_n 3, 1) := by decide +kernel
theorem dL_build_28 : decode cL_build 28 = .ok (.iconst 4, 1) := by decide +kernel
theorem dL_build_29 : decode cL_build 29 = .ok (.if_icmp .ge 54, 3) := by decide +kernel
theorem dL_build_32 : decode cL_build 32 = .ok (.aload_n 0, 1) := by decide +kernel
theorem dL_build_33 : decode cL_build 33 = .ok (.aload_n 1, 1) := by decide +kernel
theorem dL_build_34 : decode cL_build 34 = .ok (.iconst 4, 1) := by decide +kernel
theorem dL_build_35 : decode cL_build 35 = .ok (.iload_n 3, 1) := by decide +kernel
theorem dL_build_36 : decode cL_build 36 = .ok (.iadd, 1) := by decide +kernel
theorem dL_build_37 : decode cL_build 37 = .ok (.iconst 3, 1) := by decide +kernel
theorem dL_build_38 : decode cL_build 38 = .ok (.invokestatic 65, 3) := by decide +kernel
theorem dL_build_41 : decode cL_build 41 = .ok (.invokestatic 72, 3) := by decide +kernel
theorem dL_build_44 : decode cL_build 44 = .ok (.iconst 1, 1) := by decide +kernel
theorem dL_build_45 : decode cL_build 45 = .ok (.aload_n 1, 1) := by decide +kernel
theorem dL_build_46 : decode cL_build 46 = .ok (.bipush 8, 2) := by decide +kernel
theorem dL_build_48 : decode cL_build 48 = .ok (.iload_n 3, 1) := by decide +kernel
theorem dL_build_49 : decode cL_build 49 = .ok (.iadd, 1) := by decide +kernel
theorem dL_build_50 : decode cL_build 50 = .ok (.bipush 9, 2) := by decide +kernel
theorem dL_build_52 : decode cL_build 52 = .ok (.invokestatic 65, 3) := by decide +kernel
theorem dL_build_55 : decode cL_build 55 = .ok (.iadd, 1) := by decide +kernel
theorem dL_build_56 : decode cL_build 56 = .ok (.aload_n 1, 1) := by decide +kernel
theorem dL_build_57 : decode cL_build 57 = .ok (.bipush 12, 2) := by decide +kernel
theorem dL_build_59 : decode cL_build 59 = .ok (.iload_n 3, 1) := by decide +kernel
theorem dL_build_60 : decode cL_build 60 = .ok (.iadd, 1) := by decide +kernel
theorem dL_build_61 : decode cL_build 61 = .ok (.iconst 2, 1) := by decide +kernel
theorem dL_build_62 : decode cL_build 62 = .ok (.invokestatic 65, 3) := by decide +kernel
theorem dL_build_65 : decode cL_build 65 = .ok (.ifCond .ne 7, 3) := by decide +kernel
theorem dL_build_68 : decode cL_build 68 = .ok (.iconst 1, 1) := by decide +kernel
theorem dL_build_69 : decode cL_build 69 = .ok (.goto 4, 3) := by decide +kernel
theorem dL_build_72 : decode cL_build 72 = .ok (.iconst 0, 1) := by decide +kernel
theorem dL_build_73 : decode cL_build 73 = .ok (.invokestatic 75, 3) := by decide +kernel
theorem dL_build_76 : decode cL_build 76 = .ok (.istore_n 2, 1) := by decide +kernel
theorem dL_build_77 : decode cL_build 77 = .ok (.iinc 3 1, 3) := by decide +kernel
theorem dL_build_80 : decode cL_build 80 = .ok (.goto (-53), 3) := by decide +kernel
theorem dL_build_83 : decode cL_build 83 = .ok (.iconst 0, 1) := by decide +kernel
theorem dL_build_84 : decode cL_build 84 = .ok (.istore_n 3, 1) := by decide +kernel
theorem dL_build_85 : decode cL_build 85 = .ok (.iload_n 3, 1) := by decide +kernel
theorem dL_build_86 : decode cL_build 86 = .ok (.bipush 18, 2) := by decide +kernel
theorem dL_build_88 : decode cL_build 88 = .ok (.if_icmp .ge 20, 3) := by decide +kernel
theorem dL_build_91 : decode cL_build 91 = .ok (.aload_n 0, 1) := by decide +kernel
theorem dL_build_92 : decode cL_build 92 = .ok (.aload_n 1, 1) := by decide +kernel
theorem dL_build_93 : decode cL_build 93 = .ok (.bipush 16, 2) := by decide +kernel
theorem dL_build_95 : decode cL_build 95 = .ok (.iconst 3, 1) := by decide +kernel
theorem dL_build_96 : decode cL_build 96 = .ok (.iload_n 3, 1) := by decide +kernel
theorem dL_build_97 : decode cL_build 97 = .ok (.imul, 1) := by decide +kernel
theorem dL_build_98 : decode cL_build 98 = .ok (.iadd, 1) := by decide +kernel
theorem dL_build_99 : decode cL_build 99 = .ok (.invokestatic 78, 3) := by decide +kernel
theorem dL_build_102 : decode cL_build 102 = .ok (.iinc 3 1, 3) := by decide +kernel
theorem dL_build_105 : decode cL_build 105 = .ok (.goto (-20), 3) := by decide +kernel
theorem dL_build_108 : decode cL_build 108 = .ok (.return_, 1) := by decide +kernel
theorem dL_acts_0 : decode cL_acts 0 = .ok (.aload_n 1, 1) := by decide +kernel
theorem dL_acts_1 : decode cL_acts 1 = .ok (.iload_n 2, 1) := by decide +kernel
theorem dL_acts_2 : decode cL_acts 2 = .ok (.iconst 1, 1) := by decide +kernel
theorem dL_acts_3 : decode cL_acts 3 = .ok (.iadd, 1) := by decide +kernel
theorem dL_acts_4 : decode cL_acts 4 = .ok (.bipush 90, 2) := by decide +kernel
theorem dL_acts_6 : decode cL_acts 6 = .ok (.invokestatic 65, 3) := by decide +kernel
theorem dL_acts_9 : decode cL_acts 9 = .ok (.istore_n 3, 1) := by decide +kernel
theorem dL_acts_10 : decode cL_acts 10 = .ok (.aload_n 1, 1) := by decide +kernel
theorem dL_acts_11 : decode cL_acts 11 = .ok (.iload_n 2, 1) := by decide +kernel
theorem dL_acts_12 : decode cL_acts 12 = .ok (.iconst 2, 1) := by decide +kernel
theorem dL_acts_13 : decode cL_acts 13 = .ok (.iadd, 1) := by decide +kernel
theorem dL_acts_14 : decode cL_acts 14 = .ok (.iconst 4, 1) := by decide +kernel
theorem dL_acts_15 : decode cL_acts 15 = .ok (.invokestatic 65, 3) := by decide +kernel
theorem dL_acts_18 : decode cL_acts 18 = .ok (.istore 4, 2) := by decide +kernel
theorem dL_acts_20 : decode cL_acts 20 = .ok (.aload_n 1, 1) := by decide +kernel
theorem dL_acts_21 : decode cL_acts 21 = .ok (.iload_n 2, 1) := by decide +kernel
theorem dL_acts_22 : decode cL_acts 22 = .ok (.bipush 14, 2) := by decide +kernel
theorem dL_acts_24 : decode cL_acts 24 = .ok (.invokestatic 65, 3) := by decide +kernel
theorem dL_acts_27 : decode cL_acts 27 = .ok (.tableswitch 158 0 8 #[49, 92, 92, 92, 106, 106, 106, 117, 128], 49) := by decide +kernel
theorem dL_acts_76 : decode cL_acts 76 = .ok (.aload_n 0, 1) := by decide +kernel
theorem dL_acts_77 : decode cL_acts 77 = .ok (.invokevirtual 82, 3) := by decide +kernel
theorem dL_acts_80 : decode cL_acts 80 = .ok (.bipush 7, 2) := by decide +kernel
theorem dL_acts_82 : decode cL_acts 82 = .ok (.if_icmp .ge 31, 3) := by decide +kernel
theorem dL_acts_85 : decode cL_acts 85 = .ok (.aload_n 0, 1) := by decide +kernel
theorem dL_acts_86 : decode cL_acts 86 = .ok (.iload_n 3, 1) := by decide +kernel
theorem dL_acts_87 : decode cL_acts 87 = .ok (.invokestatic 72, 3) := by decide +kernel
theorem dL_acts_90 : decode cL_acts 90 = .ok (.iconst 1, 1) := by decide +kernel
theorem dL_acts_91 : decode cL_acts 91 = .ok (.iload_n 3, 1) := by decide +kernel
theorem dL_acts_92 : decode cL_acts 92 = .ok (.bipush 9, 2) := by decide +kernel
theorem dL_acts_94 : decode cL_acts 94 = .ok (.irem, 1) := by decide +kernel
theorem dL_acts_95 : decode cL_acts 95 = .ok (.iadd, 1) := by decide +kernel
theorem dL_acts_96 : decode cL_acts 96 = .ok (.iload 4, 2) := by decide +kernel
theorem dL_acts_98 : decode cL_acts 98 = .ok (.iconst 2, 1) := by decide +kernel
theorem dL_acts_99 : decode cL_acts 99 = .ok (.if_icmp .ge 7, 3) := by decide +kernel
theorem dL_acts_102 : decode cL_acts 102 = .ok (.iconst 1, 1) := by decide +kernel
theorem dL_acts_103 : decode cL_acts 103 = .ok (.goto 4, 3) := by decide +kernel
theorem dL_acts_106 : decode cL_acts 106 = .ok (.iconst 0, 1) := by decide +kernel
theorem dL_acts_107 : decode cL_acts 107 = .ok (.invokestatic 75, 3) := by decide +kernel
theorem dL_acts_110 : decode cL_acts 110 = .ok (.goto 4, 3) := by decide +kernel
theorem dL_acts_113 : decode cL_acts 113 = .ok (.iconst 0, 1) := by decide +kernel
theorem dL_acts_114 : decode cL_acts 114 = .ok (.istore 5, 2) := by decide +kernel
theorem dL_acts_116 : decode cL_acts 116 = .ok (.goto 81, 3) := by decide +kernel
theorem dL_acts_119 : decode cL_acts 119 = .ok (.aload_n 0, 1) := by decide +kernel
theorem dL_acts_120 : decode cL_acts 120 = .ok (.iload 4, 2) := by decide +kernel
theorem dL_acts_122 : decode cL_acts 122 = .ok (.iload_n 3, 1) := by decide +kernel
theorem dL_acts_123 : decode cL_acts 123 = .ok (.iconst 4, 1) := by decide +kernel
theorem dL_acts_124 : decode cL_acts 124 = .ok (.irem, 1) := by decide +kernel
theorem dL_acts_125 : decode cL_acts 125 = .ok (.invokestatic 69, 3) := by decide +kernel
theorem dL_acts_128 : decode cL_acts 128 = .ok (.istore 5, 2) := by decide +kernel
theorem dL_acts_130 : decode cL_acts 130 = .ok (.goto 67, 3) := by decide +kernel
theorem dL_acts_133 : decode cL_acts 133 = .ok (.aload_n 0, 1) := by decide +kernel
theorem dL_acts_134 : decode cL_acts 134 = .ok (.iload 4, 2) := by decide +kernel
theorem dL_acts_136 : decode cL_acts 136 = .ok (.invokestatic 86, 3) := by decide +kernel
theorem dL_acts_139 : decode cL_acts 139 = .ok (.istore 5, 2) := by decide +kernel
theorem dL_acts_141 : decode cL_acts 141 = .ok (.goto 56, 3) := by decide +kernel
theorem dL_acts_144 : decode cL_acts 144 = .ok (.aload_n 0, 1) := by decide +kernel
theorem dL_acts_145 : decode cL_acts 145 = .ok (.iload 4, 2) := by decide +kernel
theorem dL_acts_147 : decode cL_acts 147 = .ok (.invokestatic 89, 3) := by decide +kernel
theorem dL_acts_150 : decode cL_acts 150 = .ok (.istore 5, 2) := by decide +kernel
theorem dL_acts_152 : decode cL_acts 152 = .ok (.goto 45, 3) := by decide +kernel
theorem dL_acts_155 : decode cL_acts 155 = .ok (.iload_n 3, 1) := by decide +kernel
theorem dL_acts_156 : decode cL_acts 156 = .ok (.iconst 2, 1) := by decide +kernel
theorem dL_acts_157 : decode cL_acts 157 = .ok (.irem, 1) := by decide +kernel
theorem dL_acts_158 : decode cL_acts 158 = .ok (.ifCond .ne 14, 3) := by decide +kernel
theorem dL_acts_161 : decode cL_acts 161 = .ok (.aload_n 0, 1) := by decide +kernel
theorem dL_acts_162 : decode cL_acts 162 = .ok (.iload_n 3, 1) := by decide +kernel
theorem dL_acts_163 : decode cL_acts 163 = .ok (.bipush 10, 2) := by decide +kernel
theorem dL_acts_165 : decode cL_acts 165 = .ok (.irem, 1) := by decide +kernel
theorem dL_acts_166 : decode cL_acts 166 = .ok (.invokestatic 91, 3) := by decide +kernel
theorem dL_acts_169 : decode cL_acts 169 = .ok (.goto 11, 3) := by decide +kernel
theorem dL_acts_172 : decode cL_acts 172 = .ok (.aload_n 0, 1) := by decide +kernel
theorem dL_acts_173 : decode cL_acts 173 = .ok (.iload_n 3, 1) := by decide +kernel
theorem dL_acts_174 : decode cL_acts 174 = .ok (.bipush 10, 2) := by decide +kernel
theorem dL_acts_176 : decode cL_acts 176 = .ok (.irem, 1) := by decide +kernel
theorem dL_acts_177 : decode cL_acts 177 = .ok (.invokestatic 93, 3) := by decide +kernel
theorem dL_acts_180 : decode cL_acts 180 = .ok (.istore 5, 2) := by decide +kernel
theorem dL_acts_182 : decode cL_acts 182 = .ok (.goto 15, 3) := by decide +kernel
theorem dL_acts_185 : decode cL_acts 185 = .ok (.aload_n 0, 1) := by decide +kernel
theorem dL_acts_186 : decode cL_acts 186 = .ok (.iconst 1, 1) := by decide +kernel
theorem dL_acts_187 : decode cL_acts 187 = .ok (.iload_n 3, 1) := by decide +kernel
theorem dL_acts_188 : decode cL_acts 188 = .ok (.bipush 9, 2) := by decide +kernel
theorem dL_acts_190 : decode cL_acts 190 = .ok (.irem, 1) := by decide +kernel
theorem dL_acts_191 : decode cL_acts 191 = .ok (.iadd, 1) := by decide +kernel
theorem dL_acts_192 : decode cL_acts 192 = .ok (.invokestatic 95, 3) := by decide +kernel
theorem dL_acts_195 : decode cL_acts 195 = .ok (.istore 5, 2) := by decide +kernel
theorem dL_acts_197 : decode cL_acts 197 = .ok (.return_, 1) := by decide +kernel
theorem dL_litres_0 : decode cL_litres 0 = .ok (.iload_n 0, 1) := by decide +kernel
theorem dL_litres_1 : decode cL_litres 1 = .ok (.iload_n 3, 1) := by decide +kernel
theorem dL_litres_2 : decode cL_litres 2 = .ok (.imul, 1) := by decide +kernel
theorem dL_litres_3 : decode cL_litres 3 = .ok (.iload_n 2, 1) := by decide +kernel
theorem dL_litres_4 : decode cL_litres 4 = .ok (.iload_n 1, 1) := by decide +kernel
theorem dL_litres_5 : decode cL_litres 5 = .ok (.imul, 1) := by decide +kernel
theorem dL_litres_6 : decode cL_litres 6 = .ok (.isub, 1) := by decide +kernel
theorem dL_litres_7 : decode cL_litres 7 = .ok (.invokestatic 97, 3) := by decide +kernel
theorem dL_litres_10 : decode cL_litres 10 = .ok (.iload_n 1, 1) := by decide +kernel
theorem dL_litres_11 : decode cL_litres 11 = .ok (.iload_n 3, 1) := by decide +kernel
theorem dL_litres_12 : decode cL_litres 12 = .ok (.iadd, 1) := by decide +kernel
theorem dL_litres_13 : decode cL_litres 13 = .ok (.idiv, 1) := by decide +kernel
theorem dL_litres_14 : decode cL_litres 14 = .ok (.ireturn, 1) := by decide +kernel
theorem dL_isLine_0 : decode cL_isLine 0 = .ok (.iload_n 1, 1) := by decide +kernel
theorem dL_isLine_1 : decode cL_isLine 1 = .ok (.aload_n 2, 1) := by decide +kernel
theorem dL_isLine_2 : decode cL_isLine 2 = .ok (.invokevirtual 102, 3) := by decide +kernel
theorem dL_isLine_5 : decode cL_isLine 5 = .ok (.if_icmp .eq 5, 3) := by decide +kernel
theorem dL_isLine_8 : decode cL_isLine 8 = .ok (.iconst 0, 1) := by decide +kernel
theorem dL_isLine_9 : decode cL_isLine 9 = .ok (.ireturn, 1) := by decide +kernel
theorem dL_isLine_10 : decode cL_isLine 10 = .ok (.iconst 0, 1) := by decide +kernel
theorem dL_isLine_11 : decode cL_isLine 11 = .ok (.istore_n 3, 1) := by decide +kernel
theorem dL_isLine_12 : decode cL_isLine 12 = .ok (.iload_n 3, 1) := by decide +kernel
theorem dL_isLine_13 : decode cL_isLine 13 = .ok (.iload_n 1, 1) := by decide +kernel
theorem dL_isLine_14 : decode cL_isLine 14 = .ok (.if_icmp .ge 24, 3) := by decide +kernel
theorem dL_isLine_17 : decode cL_isLine 17 = .ok (.aload_n 0, 1) := by decide +kernel
theorem dL_isLine_18 : decode cL_isLine 18 = .ok (.iload_n 3, 1) := by decide +kernel
theorem dL_isLine_19 : decode cL_isLine 19 = .ok (.invokevirtual 107, 3) := by decide +kernel
theorem dL_isLine_22 : decode cL_isLine 22 = .ok (.aload_n 2, 1) := by decide +kernel
theorem dL_isLine_23 : decode cL_isLine 23 = .ok (.iload_n 3, 1) := by decide +kernel
theorem dL_isLine_24 : decode cL_isLine 24 = .ok (.invokevirtual 110, 3) := by decide +kernel
theorem dL_isLine_27 : decode cL_isLine 27 = .ok (.if_icmp .eq 5, 3) := by decide +kernel
theorem dL_isLine_30 : decode cL_isLine 30 = .ok (.iconst 0, 1) := by decide +kernel
theorem dL_isLine_31 : decode cL_isLine 31 = .ok (.ireturn, 1) := by decide +kernel
theorem dL_isLine_32 : decode cL_isLine 32 = .ok (.iinc 3 1, 3) := by decide +kernel
theorem dL_isLine_35 : decode cL_isLine 35 = .ok (.goto (-23), 3) := by decide +kernel
theorem dL_isLine_38 : decode cL_isLine 38 = .ok (.iconst 1, 1) := by decide +kernel
theorem dL_isLine_39 : decode cL_isLine 39 = .ok (.ireturn, 1) := by decide +kernel
