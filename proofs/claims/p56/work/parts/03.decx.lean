theorem dX0_init_0 : decode cX0_init 0 = .ok (.aload_n 0, 1) := by decide +kernel
theorem dX0_init_1 : decode cX0_init 1 = .ok (.invokespecial 3, 3) := by decide +kernel
theorem dX0_init_4 : decode cX0_init 4 = .ok (.aload_n 0, 1) := by decide +kernel
theorem dX0_init_5 : decode cX0_init 5 = .ok (.bipush 8, 2) := by decide +kernel
theorem dX0_init_7 : decode cX0_init 7 = .ok (.newarray .char, 2) := by decide +kernel
theorem dX0_init_9 : decode cX0_init 9 = .ok (.putfield 9, 3) := by decide +kernel
theorem dX0_init_12 : decode cX0_init 12 = .ok (.aload_n 0, 1) := by decide +kernel
theorem dX0_init_13 : decode cX0_init 13 = .ok (.bipush 8, 2) := by decide +kernel
theorem dX0_init_15 : decode cX0_init 15 = .ok (.newarray .int, 2) := by decide +kernel
theorem dX0_init_17 : decode cX0_init 17 = .ok (.putfield 15, 3) := by decide +kernel
theorem dX0_init_20 : decode cX0_init 20 = .ok (.aload_n 0, 1) := by decide +kernel
theorem dX0_init_21 : decode cX0_init 21 = .ok (.iconst 0, 1) := by decide +kernel
theorem dX0_init_22 : decode cX0_init 22 = .ok (.putfield 19, 3) := by decide +kernel
theorem dX0_init_25 : decode cX0_init 25 = .ok (.aload_n 0, 1) := by decide +kernel
theorem dX0_init_26 : decode cX0_init 26 = .ok (.iconst 0, 1) := by decide +kernel
theorem dX0_init_27 : decode cX0_init 27 = .ok (.putfield 23, 3) := by decide +kernel
theorem dX0_init_30 : decode cX0_init 30 = .ok (.return_, 1) := by decide +kernel
theorem dX0_copyEvents_0 : decode cX0_copyEvents 0 = .ok (.iconst 0, 1) := by decide +kernel
theorem dX0_copyEvents_1 : decode cX0_copyEvents 1 = .ok (.istore_n 2, 1) := by decide +kernel
theorem dX0_copyEvents_2 : decode cX0_copyEvents 2 = .ok (.iload_n 2, 1) := by decide +kernel
theorem dX0_copyEvents_3 : decode cX0_copyEvents 3 = .ok (.bipush 8, 2) := by decide +kernel
theorem dX0_copyEvents_5 : decode cX0_copyEvents 5 = .ok (.if_icmp .ge 33, 3) := by decide +kernel
theorem dX0_copyEvents_8 : decode cX0_copyEvents 8 = .ok (.aload_n 0, 1) := by decide +kernel
theorem dX0_copyEvents_9 : decode cX0_copyEvents 9 = .ok (.getfield 9, 3) := by decide +kernel
theorem dX0_copyEvents_12 : decode cX0_copyEvents 12 = .ok (.iload_n 2, 1) := by decide +kernel
theorem dX0_copyEvents_13 : decode cX0_copyEvents 13 = .ok (.aload_n 1, 1) := by decide +kernel
theorem dX0_copyEvents_14 : decode cX0_copyEvents 14 = .ok (.getfield 9, 3) := by decide +kernel
theorem dX0_copyEvents_17 : decode cX0_copyEvents 17 = .ok (.iload_n 2, 1) := by decide +kernel
theorem dX0_copyEvents_18 : decode cX0_copyEvents 18 = .ok (.caload, 1) := by decide +kernel
theorem dX0_copyEvents_19 : decode cX0_copyEvents 19 = .ok (.castore, 1) := by decide +kernel
theorem dX0_copyEvents_20 : decode cX0_copyEvents 20 = .ok (.aload_n 0, 1) := by decide +kernel
theorem dX0_copyEvents_21 : decode cX0_copyEvents 21 = .ok (.getfield 15, 3) := by decide +kernel
theorem dX0_copyEvents_24 : decode cX0_copyEvents 24 = .ok (.iload_n 2, 1) := by decide +kernel
theorem dX0_copyEvents_25 : decode cX0_copyEvents 25 = .ok (.aload_n 1, 1) := by decide +kernel
theorem dX0_copyEvents_26 : decode cX0_copyEvents 26 = .ok (.getfield 15, 3) := by decide +kernel
theorem dX0_copyEvents_29 : decode cX0_copyEvents 29 = .ok (.iload_n 2, 1) := by decide +kernel
theorem dX0_copyEvents_30 : decode cX0_copyEvents 30 = .ok (.iaload, 1) := by decide +kernel
theorem dX0_copyEvents_31 : decode cX0_copyEvents 31 = .ok (.iastore, 1) := by decide +kernel
theorem dX0_copyEvents_32 : decode cX0_copyEvents 32 = .ok (.iinc 2 1, 3) := by decide +kernel
theorem dX0_copyEvents_35 : decode cX0_copyEvents 35 = .ok (.goto (-33), 3) := by decide +kernel
theorem dX0_copyEvents_38 : decode cX0_copyEvents 38 = .ok (.aload_n 0, 1) := by decide +kernel
theorem dX0_copyEvents_39 : decode cX0_copyEvents 39 = .ok (.aload_n 1, 1) := by decide +kernel
theorem dX0_copyEvents_40 : decode cX0_copyEvents 40 = .ok (.getfield 19, 3) := by decide +kernel
theorem dX0_copyEvents_43 : decode cX0_copyEvents 43 = .ok (.putfield 19, 3) := by decide +kernel
theorem dX0_copyEvents_46 : decode cX0_copyEvents 46 = .ok (.aload_n 0, 1) := by decide +kernel
theorem dX0_copyEvents_47 : decode cX0_copyEvents 47 = .ok (.aload_n 1, 1) := by decide +kernel
theorem dX0_copyEvents_48 : decode cX0_copyEvents 48 = .ok (.getfield 23, 3) := by decide +kernel
theorem dX0_copyEvents_51 : decode cX0_copyEvents 51 = .ok (.putfield 23, 3) := by decide +kernel
theorem dX0_copyEvents_54 : decode cX0_copyEvents 54 = .ok (.return_, 1) := by decide +kernel
theorem dX0_note_0 : decode cX0_note 0 = .ok (.aload_n 0, 1) := by decide +kernel
theorem dX0_note_1 : decode cX0_note 1 = .ok (.getfield 9, 3) := by decide +kernel
theorem dX0_note_4 : decode cX0_note 4 = .ok (.aload_n 0, 1) := by decide +kernel
theorem dX0_note_5 : decode cX0_note 5 = .ok (.getfield 19, 3) := by decide +kernel
theorem dX0_note_8 : decode cX0_note 8 = .ok (.iload_n 1, 1) := by decide +kernel
theorem dX0_note_9 : decode cX0_note 9 = .ok (.castore, 1) := by decide +kernel
theorem dX0_note_10 : decode cX0_note 10 = .ok (.aload_n 0, 1) := by decide +kernel
theorem dX0_note_11 : decode cX0_note 11 = .ok (.getfield 15, 3) := by decide +kernel
theorem dX0_note_14 : decode cX0_note 14 = .ok (.aload_n 0, 1) := by decide +kernel
theorem dX0_note_15 : decode cX0_note 15 = .ok (.getfield 19, 3) := by decide +kernel
theorem dX0_note_18 : decode cX0_note 18 = .ok (.iload_n 2, 1) := by decide +kernel
theorem dX0_note_19 : decode cX0_note 19 = .ok (.iastore, 1) := by decide +kernel
theorem dX0_note_20 : decode cX0_note 20 = .ok (.aload_n 0, 1) := by decide +kernel
theorem dX0_note_21 : decode cX0_note 21 = .ok (.aload_n 0, 1) := by decide +kernel
theorem dX0_note_22 : decode cX0_note 22 = .ok (.getfield 19, 3) := by decide +kernel
theorem dX0_note_25 : decode cX0_note 25 = .ok (.iconst 1, 1) := by decide +kernel
theorem dX0_note_26 : decode cX0_note 26 = .ok (.iadd, 1) := by decide +kernel
theorem dX0_note_27 : decode cX0_note 27 = .ok (.bipush 8, 2) := by decide +kernel
theorem dX0_note_29 : decode cX0_note 29 = .ok (.irem, 1) := by decide +kernel
theorem dX0_note_30 : decode cX0_note 30 = .ok (.putfield 19, 3) := by decide +kernel
theorem dX0_note_33 : decode cX0_note 33 = .ok (.aload_n 0, 1) := by decide +kernel
theorem dX0_note_34 : decode cX0_note 34 = .ok (.aload_n 0, 1) := by decide +kernel
theorem dX0_note_35 : decode cX0_note 35 = .ok (.getfield 23, 3) := by decide +kernel
theorem dX0_note_38 : decode cX0_note 38 = .ok (.iconst 1, 1) := by decide +kernel
theorem dX0_note_39 : decode cX0_note 39 = .ok (.iadd, 1) := by decide +kernel
theorem dX0_note_40 : decode cX0_note 40 = .ok (.bipush 8, 2) := by decide +kernel
theorem dX0_note_42 : decode cX0_note 42 = .ok (.invokestatic 26, 3) := by decide +kernel
theorem dX0_note_45 : decode cX0_note 45 = .ok (.putfield 23, 3) := by decide +kernel
theorem dX0_note_48 : decode cX0_note 48 = .ok (.return_, 1) := by decide +kernel
theorem dX0_placeOf_0 : decode cX0_placeOf 0 = .ok (.aload_n 0, 1) := by decide +kernel
theorem dX0_placeOf_1 : decode cX0_placeOf 1 = .ok (.getfield 19, 3) := by decide +kernel
theorem dX0_placeOf_4 : decode cX0_placeOf 4 = .ok (.iconst 1, 1) := by decide +kernel
theorem dX0_placeOf_5 : decode cX0_placeOf 5 = .ok (.isub, 1) := by decide +kernel
theorem dX0_placeOf_6 : decode cX0_placeOf 6 = .ok (.iload_n 1, 1) := by decide +kernel
theorem dX0_placeOf_7 : decode cX0_placeOf 7 = .ok (.isub, 1) := by decide +kernel
theorem dX0_placeOf_8 : decode cX0_placeOf 8 = .ok (.bipush 8, 2) := by decide +kernel
theorem dX0_placeOf_10 : decode cX0_placeOf 10 = .ok (.invokestatic 32, 3) := by decide +kernel
theorem dX0_placeOf_13 : decode cX0_placeOf 13 = .ok (.ireturn, 1) := by decide +kernel
theorem dX1_init_0 : decode cX1_init 0 = .ok (.aload_n 0, 1) := by decide +kernel
theorem dX1_init_1 : decode cX1_init 1 = .ok (.invokespecial 3, 3) := by decide +kernel
theorem dX1_init_4 : decode cX1_init 4 = .ok (.aload_n 0, 1) := by decide +kernel
theorem dX1_init_5 : decode cX1_init 5 = .ok (.iconst 0, 1) := by decide +kernel
theorem dX1_init_6 : decode cX1_init 6 = .ok (.putfield 9, 3) := by decide +kernel
theorem dX1_init_9 : decode cX1_init 9 = .ok (.aload_n 0, 1) := by decide +kernel
theorem dX1_init_10 : decode cX1_init 10 = .ok (.iconst 0, 1) := by decide +kernel
theorem dX1_init_11 : decode cX1_init 11 = .ok (.putfield 15, 3) := by decide +kernel
theorem dX1_init_14 : decode cX1_init 14 = .ok (.aload_n 0, 1) := by decide +kernel
theorem dX1_init_15 : decode cX1_init 15 = .ok (.bipush 8, 2) := by decide +kernel
theorem dX1_init_17 : decode cX1_init 17 = .ok (.newarray .int, 2) := by decide +kernel
theorem dX1_init_19 : decode cX1_init 19 = .ok (.putfield 18, 3) := by decide +kernel
theorem dX1_init_22 : decode cX1_init 22 = .ok (.aload_n 0, 1) := by decide +kernel
theorem dX1_init_23 : decode cX1_init 23 = .ok (.bipush 8, 2) := by decide +kernel
theorem dX1_init_25 : decode cX1_init 25 = .ok (.newarray .int, 2) := by decide +kernel
theorem dX1_init_27 : decode cX1_init 27 = .ok (.putfield 22, 3) := by decide +kernel
theorem dX1_init_30 : decode cX1_init 30 = .ok (.aload_n 0, 1) := by decide +kernel
theorem dX1_init_31 : decode cX1_init 31 = .ok (.bipush 8, 2) := by decide +kernel
theorem dX1_init_33 : decode cX1_init 33 = .ok (.newarray .boolean, 2) := by decide +kernel
theorem dX1_init_35 : decode cX1_init 35 = .ok (.putfield 25, 3) := by decide +kernel
theorem dX1_init_38 : decode cX1_init 38 = .ok (.aload_n 0, 1) := by decide +kernel
theorem dX1_init_39 : decode cX1_init 39 = .ok (.bipush 8, 2) := by decide +kernel
theorem dX1_init_41 : decode cX1_init 41 = .ok (.newarray .int, 2) := by decide +kernel
theorem dX1_init_43 : decode cX1_init 43 = .ok (.putfield 29, 3) := by decide +kernel
theorem dX1_init_46 : decode cX1_init 46 = .ok (.aload_n 0, 1) := by decide +kernel
theorem dX1_init_47 : decode cX1_init 47 = .ok (.bipush 8, 2) := by decide +kernel
theorem dX1_init_49 : decode cX1_init 49 = .ok (.newarray .int, 2) := by decide +kernel
theorem dX1_init_51 : decode cX1_init 51 = .ok (.putfield 32, 3) := by decide +kernel
theorem dX1_init_54 : decode cX1_init 54 = .ok (.aload_n 0, 1) := by decide +kernel
theorem dX1_init_55 : decode cX1_init 55 = .ok (.iconst 3, 1) := by decide +kernel
theorem dX1_init_56 : decode cX1_init 56 = .ok (.newarray .int, 2) := by decide +kernel
theorem dX1_init_58 : decode cX1_init 58 = .ok (.putfield 35, 3) := by decide +kernel
theorem dX1_init_61 : decode cX1_init 61 = .ok (.return_, 1) := by decide +kernel
theorem dX1_copyFleet_0 : decode cX1_copyFleet 0 = .ok (.aload_n 0, 1) := by decide +kernel
theorem dX1_copyFleet_1 : decode cX1_copyFleet 1 = .ok (.aload_n 1, 1) := by decide +kernel
theorem dX1_copyFleet_2 : decode cX1_copyFleet 2 = .ok (.getfield 9, 3) := by decide +kernel
theorem dX1_copyFleet_5 : decode cX1_copyFleet 5 = .ok (.putfield 9, 3) := by decide +kernel
theorem dX1_copyFleet_8 : decode cX1_copyFleet 8 = .ok (.aload_n 0, 1) := by decide +kernel
theorem dX1_copyFleet_9 : decode cX1_copyFleet 9 = .ok (.aload_n 1, 1) := by decide +kernel
theorem dX1_copyFleet_10 : decode cX1_copyFleet 10 = .ok (.getfield 15, 3) := by decide +kernel
theorem dX1_copyFleet_13 : decode cX1_copyFleet 13 = .ok (.putfield 15, 3) := by decide +kernel
theorem dX1_copyFleet_16 : decode cX1_copyFleet 16 = .ok (.iconst 0, 1) := by decide +kernel
theorem dX1_copyFleet_17 : decode cX1_copyFleet 17 = .ok (.istore_n 2, 1) := by decide +kernel
theorem dX1_copyFleet_18 : decode cX1_copyFleet 18 = .ok (.iload_n 2, 1) := by decide +kernel
theorem dX1_copyFleet_19 : decode cX1_copyFleet 19 = .ok (.bipush 8, 2) := by decide +kernel
theorem dX1_copyFleet_21 : decode cX1_copyFleet 21 = .ok (.if_icmp .ge 16, 3) := by decide +kernel
theorem dX1_copyFleet_24 : decode cX1_copyFleet 24 = .ok (.aload_n 0, 1) := by decide +kernel
theorem dX1_copyFleet_25 : decode cX1_copyFleet 25 = .ok (.aload_n 1, 1) := by decide +kernel
theorem dX1_copyFleet_26 : decode cX1_copyFleet 26 = .ok (.iload_n 2, 1) := by decide +kernel
theorem dX1_copyFleet_27 : decode cX1_copyFleet 27 = .ok (.iload_n 2, 1) := by decide +kernel
theorem dX1_copyFleet_28 : decode cX1_copyFleet 28 = .ok (.invokevirtual 38, 3) := by decide +kernel
theorem dX1_copyFleet_31 : decode cX1_copyFleet 31 = .ok (.iinc 2 1, 3) := by decide +kernel
theorem dX1_copyFleet_34 : decode cX1_copyFleet 34 = .ok (.goto (-16), 3) := by decide +kernel
theorem dX1_copyFleet_37 : decode cX1_copyFleet 37 = .ok (.iconst 0, 1) := by decide +kernel
theorem dX1_copyFleet_38 : decode cX1_copyFleet 38 = .ok (.istore_n 2, 1) := by decide +kernel
theorem dX1_copyFleet_39 : decode cX1_copyFleet 39 = .ok (.iload_n 2, 1) := by decide +kernel
theorem dX1_copyFleet_40 : decode cX1_copyFleet 40 = .ok (.iconst 3, 1) := by decide +kernel
theorem dX1_copyFleet_41 : decode cX1_copyFleet 41 = .ok (.if_icmp .ge 21, 3) := by decide +kernel
theorem dX1_copyFleet_44 : decode cX1_copyFleet 44 = .ok (.aload_n 0, 1) := by decide +kernel
theorem dX1_copyFleet_45 : decode cX1_copyFleet 45 = .ok (.getfield 35, 3) := by decide +kernel
theorem dX1_copyFleet_48 : decode cX1_copyFleet 48 = .ok (.iload_n 2, 1) := by decide +kernel
theorem dX1_copyFleet_49 : decode cX1_copyFleet 49 = .ok (.aload_n 1, 1) := by decide +kernel
theorem dX1_copyFleet_50 : decode cX1_copyFleet 50 = .ok (.getfield 35, 3) := by decide +kernel
theorem dX1_copyFleet_53 : decode cX1_copyFleet 53 = .ok (.iload_n 2, 1) := by decide +kernel
theorem dX1_copyFleet_54 : decode cX1_copyFleet 54 = .ok (.iaload, 1) := by decide +kernel
theorem dX1_copyFleet_55 : decode cX1_copyFleet 55 = .ok (.iastore, 1) := by decide +kernel
theorem dX1_copyFleet_56 : decode cX1_copyFleet 56 = .ok (.iinc 2 1, 3) := by decide +kernel
theorem dX1_copyFleet_59 : decode cX1_copyFleet 59 = .ok (.goto (-20), 3) := by decide +kernel
theorem dX1_copyFleet_62 : decode cX1_copyFleet 62 = .ok (.return_, 1) := by decide +kernel
theorem dX1_put_0 : decode cX1_put 0 = .ok (.aload_n 0, 1) := by decide +kernel
theorem dX1_put_1 : decode cX1_put 1 = .ok (.getfield 9, 3) := by decide +kernel
theorem dX1_put_4 : decode cX1_put 4 = .ok (.bipush 8, 2) := by decide +kernel
theorem dX1_put_6 : decode cX1_put 6 = .ok (.if_icmp .lt 5, 3) := by decide +kernel
theorem dX1_put_9 : decode cX1_put 9 = .ok (.iconst (-1), 1) := by decide +kernel
theorem dX1_put_10 : decode cX1_put 10 = .ok (.ireturn, 1) := by decide +kernel
theorem dX1_put_11 : decode cX1_put 11 = .ok (.aload_n 0, 1) := by decide +kernel
theorem dX1_put_12 : decode cX1_put 12 = .ok (.getfield 18, 3) := by decide +kernel
theorem dX1_put_15 : decode cX1_put 15 = .ok (.aload_n 0, 1) := by decide +kernel
theorem dX1_put_16 : decode cX1_put 16 = .ok (.getfield 9, 3) := by decide +kernel
theorem dX1_put_19 : decode cX1_put 19 = .ok (.iload_n 1, 1) := by decide +kernel
theorem dX1_put_20 : decode cX1_put 20 = .ok (.iastore, 1) := by decide +kernel
theorem dX1_put_21 : decode cX1_put 21 = .ok (.aload_n 0, 1) := by decide +kernel
theorem dX1_put_22 : decode cX1_put 22 = .ok (.getfield 22, 3) := by decide +kernel
theorem dX1_put_25 : decode cX1_put 25 = .ok (.aload_n 0, 1) := by decide +kernel
theorem dX1_put_26 : decode cX1_put 26 = .ok (.getfield 9, 3) := by decide +kernel
theorem dX1_put_29 : decode cX1_put 29 = .ok (.iload_n 2, 1) := by decide +kernel
theorem dX1_put_30 : decode cX1_put 30 = .ok (.iastore, 1) := by decide +kernel
theorem dX1_put_31 : decode cX1_put 31 = .ok (.aload_n 0, 1) := by decide +kernel
theorem dX1_put_32 : decode cX1_put 32 = .ok (.getfield 25, 3) := by decide +kernel
theorem dX1_put_35 : decode cX1_put 35 = .ok (.aload_n 0, 1) := by decide +kernel
theorem dX1_put_36 : decode cX1_put 36 = .ok (.getfield 9, 3) := by decide +kernel
theorem dX1_put_39 : decode cX1_put 39 = .ok (.iload_n 3, 1) := by decide +kernel
theorem dX1_put_40 : decode cX1_put 40 = .ok (.bastore, 1) := by decide +kernel
theorem dX1_put_41 : decode cX1_put 41 = .ok (.aload_n 0, 1) := by decide +kernel
theorem dX1_put_42 : decode cX1_put 42 = .ok (.getfield 29, 3) := by decide +kernel
theorem dX1_put_45 : decode cX1_put 45 = .ok (.aload_n 0, 1) := by decide +kernel
theorem dX1_put_46 : decode cX1_put 46 = .ok (.getfield 9, 3) := by decide +kernel
theorem dX1_put_49 : decode cX1_put 49 = .ok (.iload_n 3, 1) := by decide +kernel
theorem dX1_put_50 : decode cX1_put 50 = .ok (.ifCond .eq 7, 3) := by decide +kernel
theorem dX1_put_53 : decode cX1_put 53 = .ok (.iconst 0, 1) := by decide +kernel
theorem dX1_put_54 : decode cX1_put 54 = .ok (.goto 4, 3) := by decide +kernel
theorem dX1_put_57 : decode cX1_put 57 = .ok (.iconst 4, 1) := by decide +kernel
theorem dX1_put_58 : decode cX1_put 58 = .ok (.iastore, 1) := by decide +kernel
theorem dX1_put_59 : decode cX1_put 59 = .ok (.aload_n 0, 1) := by decide +kernel
theorem dX1_put_60 : decode cX1_put 60 = .ok (.getfield 32, 3) := by decide +kernel
theorem dX1_put_63 : decode cX1_put 63 = .ok (.aload_n 0, 1) := by decide +kernel
theorem dX1_put_64 : decode cX1_put 64 = .ok (.getfield 9, 3) := by decide +kernel
theorem dX1_put_67 : decode cX1_put 67 = .ok (.aload_n 0, 1) := by decide +kernel
theorem dX1_put_68 : decode cX1_put 68 = .ok (.getfield 15, 3) := by decide +kernel
theorem dX1_put_71 : decode cX1_put 71 = .ok (.iastore, 1) := by decide +kernel
theorem dX1_put_72 : decode cX1_put 72 = .ok (.aload_n 0, 1) := by decide +kernel
theorem dX1_put_73 : decode cX1_put 73 = .ok (.dup, 1) := by decide +kernel
theorem dX1_put_74 : decode cX1_put 74 = .ok (.getfield 15, 3) := by decide +kernel
theorem dX1_put_77 : decode cX1_put 77 = .ok (.iconst 1, 1) := by decide +kernel
theorem dX1_put_78 : decode cX1_put 78 = .ok (.iadd, 1) := by decide +kernel
theorem dX1_put_79 : decode cX1_put 79 = .ok (.putfield 15, 3) := by decide +kernel
theorem dX1_put_82 : decode cX1_put 82 = .ok (.aload_n 0, 1) := by decide +kernel
theorem dX1_put_83 : decode cX1_put 83 = .ok (.dup, 1) := by decide +kernel
theorem dX1_put_84 : decode cX1_put 84 = .ok (.getfield 9, 3) := by decide +kernel
theorem dX1_put_87 : decode cX1_put 87 = .ok (.iconst 1, 1) := by decide +kernel
theorem dX1_put_88 : decode cX1_put 88 = .ok (.iadd, 1) := by decide +kernel
theorem dX1_put_89 : decode cX1_put 89 = .ok (.putfield 9, 3) := by decide +kernel
theorem dX1_put_92 : decode cX1_put 92 = .ok (.aload_n 0, 1) := by decide +kernel
theorem dX1_put_93 : decode cX1_put 93 = .ok (.getfield 9, 3) := by decide +kernel
theorem dX1_put_96 : decode cX1_put 96 = .ok (.iconst 1, 1) := by decide +kernel
theorem dX1_put_97 : decode cX1_put 97 = .ok (.isub, 1) := by decide +kernel
theorem dX1_put_98 : decode cX1_put 98 = .ok (.ireturn, 1) := by decide +kernel
theorem dX1_signOf_0 : decode cX1_signOf 0 = .ok (.getstatic 42, 3) := by decide +kernel
theorem dX1_signOf_3 : decode cX1_signOf 3 = .ok (.aload_n 0, 1) := by decide +kernel
theorem dX1_signOf_4 : decode cX1_signOf 4 = .ok (.getfield 18, 3) := by decide +kernel
theorem dX1_signOf_7 : decode cX1_signOf 7 = .ok (.iload_n 1, 1) := by decide +kernel
theorem dX1_signOf_8 : decode cX1_signOf 8 = .ok (.iaload, 1) := by decide +kernel
theorem dX1_signOf_9 : decode cX1_signOf 9 = .ok (.caload, 1) := by decide +kernel
theorem dX1_signOf_10 : decode cX1_signOf 10 = .ok (.ireturn, 1) := by decide +kernel
theorem dX1_countIn_0 : decode cX1_countIn 0 = .ok (.iconst 0, 1) := by decide +kernel
theorem dX1_countIn_1 : decode cX1_countIn 1 = .ok (.istore_n 2, 1) := by decide +kernel
theorem dX1_countIn_2 : decode cX1_countIn 2 = .ok (.iconst 0, 1) := by decide +kernel
theorem dX1_countIn_3 : decode cX1_countIn 3 = .ok (.istore_n 3, 1) := by decide +kernel
theorem dX1_countIn_4 : decode cX1_countIn 4 = .ok (.iload_n 3, 1) := by decide +kernel
theorem dX1_countIn_5 : decode cX1_countIn 5 = .ok (.aload_n 0, 1) := by decide +kernel
theorem dX1_countIn_6 : decode cX1_countIn 6 = .ok (.getfield 9, 3) := by decide +kernel
theorem dX1_countIn_9 : decode cX1_countIn 9 = .ok (.if_icmp .ge 27, 3) := by decide +kernel
theorem dX1_countIn_12 : decode cX1_countIn 12 = .ok (.iload_n 2, 1) := by decide +kernel
theorem dX1_countIn_13 : decode cX1_countIn 13 = .ok (.aload_n 0, 1) := by decide +kernel
theorem dX1_countIn_14 : decode cX1_countIn 14 = .ok (.getfield 29, 3) := by decide +kernel
theorem dX1_countIn_17 : decode cX1_countIn 17 = .ok (.iload_n 3, 1) := by decide +kernel
theorem dX1_countIn_18 : decode cX1_countIn 18 = .ok (.iaload, 1) := by decide +kernel
theorem dX1_countIn_19 : decode cX1_countIn 19 = .ok (.iload_n 1, 1) := by decide +kernel
theorem dX1_countIn_20 : decode cX1_countIn 20 = .ok (.if_icmp .ne 7, 3) := by decide +kernel
theorem dX1_countIn_23 : decode cX1_countIn 23 = .ok (.iconst 1, 1) := by decide +kernel
theorem dX1_countIn_24 : decode cX1_countIn 24 = .ok (.goto 4, 3) := by decide +kernel
theorem dX1_countIn_27 : decode cX1_countIn 27 = .ok (.iconst 0, 1) := by decide +kernel
theorem dX1_countIn_28 : decode cX1_countIn 28 = .ok (.iadd, 1) := by decide +kernel
theorem dX1_countIn_29 : decode cX1_countIn 29 = .ok (.istore_n 2, 1) := by decide +kernel
theorem dX1_countIn_30 : decode cX1_countIn 30 = .ok (.iinc 3 1, 3) := by decide +kernel
theorem dX1_countIn_33 : decode cX1_countIn 33 = .ok (.goto (-29), 3) := by decide +kernel
theorem dX1_countIn_36 : decode cX1_countIn 36 = .ok (.iload_n 2, 1) := by decide +kernel
theorem dX1_countIn_37 : decode cX1_countIn 37 = .ok (.ireturn, 1) := by decide +kernel
theorem dX1_hasRoom_0 : decode cX1_hasRoom 0 = .ok (.iload_n 1, 1) := by decide +kernel
theorem dX1_hasRoom_1 : decode cX1_hasRoom 1 = .ok (.ifCond .eq 17, 3) := by decide +kernel
theorem dX1_hasRoom_4 : decode cX1_hasRoom 4 = .ok (.iload_n 1, 1) := by decide +kernel
theorem dX1_hasRoom_5 : decode cX1_hasRoom 5 = .ok (.iconst 4, 1) := by decide +kernel
theorem dX1_hasRoom_6 : decode cX1_hasRoom 6 = .ok (.if_icmp .eq 12, 3) := by decide +kernel
theorem dX1_hasRoom_9 : decode cX1_hasRoom 9 = .ok (.aload_n 0, 1) := by decide +kernel
theorem dX1_hasRoom_10 : decode cX1_hasRoom 10 = .ok (.iload_n 1, 1) := by decide +kernel
theorem dX1_hasRoom_11 : decode cX1_hasRoom 11 = .ok (.invokevirtual 46, 3) := by decide +kernel
theorem dX1_hasRoom_14 : decode cX1_hasRoom 14 = .ok (.iconst 2, 1) := by decide +kernel
theorem dX1_hasRoom_15 : decode cX1_hasRoom 15 = .ok (.if_icmp .ge 7, 3) := by decide +kernel
theorem dX1_hasRoom_18 : decode cX1_hasRoom 18 = .ok (.iconst 1, 1) := by decide +kernel
theorem dX1_hasRoom_19 : decode cX1_hasRoom 19 = .ok (.goto 4, 3) := by decide +kernel
theorem dX1_hasRoom_22 : decode cX1_hasRoom 22 = .ok (.iconst 0, 1) := by decide +kernel
theorem dX1_hasRoom_23 : decode cX1_hasRoom 23 = .ok (.ireturn, 1) := by decide +kernel
theorem dX1_isWithinRoom_0 : decode cX1_isWithinRoom 0 = .ok (.iconst 1, 1) := by decide +kernel
theorem dX1_isWithinRoom_1 : decode cX1_isWithinRoom 1 = .ok (.istore_n 1, 1) := by decide +kernel
theorem dX1_isWithinRoom_2 : decode cX1_isWithinRoom 2 = .ok (.iload_n 1, 1) := by decide +kernel
theorem dX1_isWithinRoom_3 : decode cX1_isWithinRoom 3 = .ok (.iconst 4, 1) := by decide +kernel
theorem dX1_isWithinRoom_4 : decode cX1_isWithinRoom 4 = .ok (.if_icmp .ge 20, 3) := by decide +kernel
theorem dX1_isWithinRoom_7 : decode cX1_isWithinRoom 7 = .ok (.aload_n 0, 1) := by decide +kernel
theorem dX1_isWithinRoom_8 : decode cX1_isWithinRoom 8 = .ok (.iload_n 1, 1) := by decide +kernel
theorem dX1_isWithinRoom_9 : decode cX1_isWithinRoom 9 = .ok (.invokevirtual 46, 3) := by decide +kernel
theorem dX1_isWithinRoom_12 : decode cX1_isWithinRoom 12 = .ok (.iconst 2, 1) := by decide +kernel
theorem dX1_isWithinRoom_13 : decode cX1_isWithinRoom 13 = .ok (.if_icmp .le 5, 3) := by decide +kernel
theorem dX1_isWithinRoom_16 : decode cX1_isWithinRoom 16 = .ok (.iconst 0, 1) := by decide +kernel
theorem dX1_isWithinRoom_17 : decode cX1_isWithinRoom 17 = .ok (.ireturn, 1) := by decide +kernel
theorem dX1_isWithinRoom_18 : decode cX1_isWithinRoom 18 = .ok (.iinc 1 1, 3) := by decide +kernel
theorem dX1_isWithinRoom_21 : decode cX1_isWithinRoom 21 = .ok (.goto (-19), 3) := by decide +kernel
theorem dX1_isWithinRoom_24 : decode cX1_isWithinRoom 24 = .ok (.iconst 1, 1) := by decide +kernel
theorem dX1_isWithinRoom_25 : decode cX1_isWithinRoom 25 = .ok (.ireturn, 1) := by decide +kernel
theorem dX1_rankOfBoat_0 : decode cX1_rankOfBoat 0 = .ok (.iconst 0, 1) := by decide +kernel
theorem dX1_rankOfBoat_1 : decode cX1_rankOfBoat 1 = .ok (.istore_n 2, 1) := by decide +kernel
theorem dX1_rankOfBoat_2 : decode cX1_rankOfBoat 2 = .ok (.iconst 0, 1) := by decide +kernel
theorem dX1_rankOfBoat_3 : decode cX1_rankOfBoat 3 = .ok (.istore_n 3, 1) := by decide +kernel
theorem dX1_rankOfBoat_4 : decode cX1_rankOfBoat 4 = .ok (.iload_n 3, 1) := by decide +kernel
theorem dX1_rankOfBoat_5 : decode cX1_rankOfBoat 5 = .ok (.aload_n 0, 1) := by decide +kernel
theorem dX1_rankOfBoat_6 : decode cX1_rankOfBoat 6 = .ok (.getfield 9, 3) := by decide +kernel
theorem dX1_rankOfBoat_9 : decode cX1_rankOfBoat 9 = .ok (.if_icmp .ge 59, 3) := by decide +kernel
theorem dX1_rankOfBoat_12 : decode cX1_rankOfBoat 12 = .ok (.aload_n 0, 1) := by decide +kernel
theorem dX1_rankOfBoat_13 : decode cX1_rankOfBoat 13 = .ok (.getfield 18, 3) := by decide +kernel
theorem dX1_rankOfBoat_16 : decode cX1_rankOfBoat 16 = .ok (.iload_n 3, 1) := by decide +kernel
theorem dX1_rankOfBoat_17 : decode cX1_rankOfBoat 17 = .ok (.iaload, 1) := by decide +kernel
theorem dX1_rankOfBoat_18 : decode cX1_rankOfBoat 18 = .ok (.aload_n 0, 1) := by decide +kernel
theorem dX1_rankOfBoat_19 : decode cX1_rankOfBoat 19 = .ok (.getfield 18, 3) := by decide +kernel
theorem dX1_rankOfBoat_22 : decode cX1_rankOfBoat 22 = .ok (.iload_n 1, 1) := by decide +kernel
theorem dX1_rankOfBoat_23 : decode cX1_rankOfBoat 23 = .ok (.iaload, 1) := by decide +kernel
theorem dX1_rankOfBoat_24 : decode cX1_rankOfBoat 24 = .ok (.if_icmp .ne 7, 3) := by decide +kernel
theorem dX1_rankOfBoat_27 : decode cX1_rankOfBoat 27 = .ok (.iconst 1, 1) := by decide +kernel
theorem dX1_rankOfBoat_28 : decode cX1_rankOfBoat 28 = .ok (.goto 4, 3) := by decide +kernel
theorem dX1_rankOfBoat_31 : decode cX1_rankOfBoat 31 = .ok (.iconst 0, 1) := by decide +kernel
theorem dX1_rankOfBoat_32 : decode cX1_rankOfBoat 32 = .ok (.istore 4, 2) := by decide +kernel
theorem dX1_rankOfBoat_34 : decode cX1_rankOfBoat 34 = .ok (.aload_n 0, 1) := by decide +kernel
theorem dX1_rankOfBoat_35 : decode cX1_rankOfBoat 35 = .ok (.getfield 18, 3) := by decide +kernel
theorem dX1_rankOfBoat_38 : decode cX1_rankOfBoat 38 = .ok (.iload_n 3, 1) := by decide +kernel
theorem dX1_rankOfBoat_39 : decode cX1_rankOfBoat 39 = .ok (.iaload, 1) := by decide +kernel
theorem dX1_rankOfBoat_40 : decode cX1_rankOfBoat 40 = .ok (.aload_n 0, 1) := by decide +kernel
theorem dX1_rankOfBoat_41 : decode cX1_rankOfBoat 41 = .ok (.getfield 18, 3) := by decide +kernel
theorem dX1_rankOfBoat_44 : decode cX1_rankOfBoat 44 = .ok (.iload_n 1, 1) := by decide +kernel
theorem dX1_rankOfBoat_45 : decode cX1_rankOfBoat 45 = .ok (.iaload, 1) := by decide +kernel
theorem dX1_rankOfBoat_46 : decode cX1_rankOfBoat 46 = .ok (.if_icmp .lt 13, 3) := by decide +kernel
theorem dX1_rankOfBoat_49 : decode cX1_rankOfBoat 49 = .ok (.iload 4, 2) := by decide +kernel
theorem dX1_rankOfBoat_51 : decode cX1_rankOfBoat 51 = .ok (.ifCond .eq 11, 3) := by decide +kernel
theorem dX1_rankOfBoat_54 : decode cX1_rankOfBoat 54 = .ok (.iload_n 3, 1) := by decide +kernel
theorem dX1_rankOfBoat_55 : decode cX1_rankOfBoat 55 = .ok (.iload_n 1, 1) := by decide +kernel
theorem dX1_rankOfBoat_56 : decode cX1_rankOfBoat 56 = .ok (.if_icmp .ge 6, 3) := by decide +kernel
theorem dX1_rankOfBoat_59 : decode cX1_rankOfBoat 59 = .ok (.iinc 2 1, 3) := by decide +kernel
theorem dX1_rankOfBoat_62 : decode cX1_rankOfBoat 62 = .ok (.iinc 3 1, 3) := by decide +kernel
theorem dX1_rankOfBoat_65 : decode cX1_rankOfBoat 65 = .ok (.goto (-61), 3) := by decide +kernel
theorem dX1_rankOfBoat_68 : decode cX1_rankOfBoat 68 = .ok (.iload_n 2, 1) := by decide +kernel
theorem dX1_rankOfBoat_69 : decode cX1_rankOfBoat 69 = .ok (.ireturn, 1) := by decide +kernel
theorem dX1_gateAhead_0 : decode cX1_gateAhead 0 = .ok (.aload_n 0, 1) := by decide +kernel
theorem dX1_gateAhead_1 : decode cX1_gateAhead 1 = .ok (.getfield 25, 3) := by decide +kernel
theorem dX1_gateAhead_4 : decode cX1_gateAhead 4 = .ok (.iload_n 1, 1) := by decide +kernel
theorem dX1_gateAhead_5 : decode cX1_gateAhead 5 = .ok (.baload, 1) := by decide +kernel
theorem dX1_gateAhead_6 : decode cX1_gateAhead 6 = .ok (.ifCond .eq 12, 3) := by decide +kernel
theorem dX1_gateAhead_9 : decode cX1_gateAhead 9 = .ok (.aload_n 0, 1) := by decide +kernel
theorem dX1_gateAhead_10 : decode cX1_gateAhead 10 = .ok (.getfield 29, 3) := by decide +kernel
theorem dX1_gateAhead_13 : decode cX1_gateAhead 13 = .ok (.iload_n 1, 1) := by decide +kernel
theorem dX1_gateAhead_14 : decode cX1_gateAhead 14 = .ok (.iaload, 1) := by decide +kernel
theorem dX1_gateAhead_15 : decode cX1_gateAhead 15 = .ok (.goto 11, 3) := by decide +kernel
theorem dX1_gateAhead_18 : decode cX1_gateAhead 18 = .ok (.aload_n 0, 1) := by decide +kernel
theorem dX1_gateAhead_19 : decode cX1_gateAhead 19 = .ok (.getfield 29, 3) := by decide +kernel
theorem dX1_gateAhead_22 : decode cX1_gateAhead 22 = .ok (.iload_n 1, 1) := by decide +kernel
theorem dX1_gateAhead_23 : decode cX1_gateAhead 23 = .ok (.iaload, 1) := by decide +kernel
theorem dX1_gateAhead_24 : decode cX1_gateAhead 24 = .ok (.iconst 1, 1) := by decide +kernel
theorem dX1_gateAhead_25 : decode cX1_gateAhead 25 = .ok (.isub, 1) := by decide +kernel
theorem dX1_gateAhead_26 : decode cX1_gateAhead 26 = .ok (.ireturn, 1) := by decide +kernel
theorem dX1_basinAhead_0 : decode cX1_basinAhead 0 = .ok (.aload_n 0, 1) := by decide +kernel
theorem dX1_basinAhead_1 : decode cX1_basinAhead 1 = .ok (.getfield 25, 3) := by decide +kernel
theorem dX1_basinAhead_4 : decode cX1_basinAhead 4 = .ok (.iload_n 1, 1) := by decide +kernel
theorem dX1_basinAhead_5 : decode cX1_basinAhead 5 = .ok (.baload, 1) := by decide +kernel
theorem dX1_basinAhead_6 : decode cX1_basinAhead 6 = .ok (.ifCond .eq 14, 3) := by decide +kernel
theorem dX1_basinAhead_9 : decode cX1_basinAhead 9 = .ok (.aload_n 0, 1) := by decide +kernel
theorem dX1_basinAhead_10 : decode cX1_basinAhead 10 = .ok (.getfield 29, 3) := by decide +kernel
theorem dX1_basinAhead_13 : decode cX1_basinAhead 13 = .ok (.iload_n 1, 1) := by decide +kernel
theorem dX1_basinAhead_14 : decode cX1_basinAhead 14 = .ok (.iaload, 1) := by decide +kernel
theorem dX1_basinAhead_15 : decode cX1_basinAhead 15 = .ok (.iconst 1, 1) := by decide +kernel
theorem dX1_basinAhead_16 : decode cX1_basinAhead 16 = .ok (.iadd, 1) := by decide +kernel
theorem dX1_basinAhead_17 : decode cX1_basinAhead 17 = .ok (.goto 11, 3) := by decide +kernel
theorem dX1_basinAhead_20 : decode cX1_basinAhead 20 = .ok (.aload_n 0, 1) := by decide +kernel
theorem dX1_basinAhead_21 : decode cX1_basinAhead 21 = .ok (.getfield 29, 3) := by decide +kernel
theorem dX1_basinAhead_24 : decode cX1_basinAhead 24 = .ok (.iload_n 1, 1) := by decide +kernel
theorem dX1_basinAhead_25 : decode cX1_basinAhead 25 = .ok (.iaload, 1) := by decide +kernel
theorem dX1_basinAhead_26 : decode cX1_basinAhead 26 = .ok (.iconst 1, 1) := by decide +kernel
theorem dX1_basinAhead_27 : decode cX1_basinAhead 27 = .ok (.isub, 1) := by decide +kernel
theorem dX1_basinAhead_28 : decode cX1_basinAhead 28 = .ok (.ireturn, 1) := by decide +kernel
theorem dX1_hasArrived_0 : decode cX1_hasArrived 0 = .ok (.aload_n 0, 1) := by decide +kernel
theorem dX1_hasArrived_1 : decode cX1_hasArrived 1 = .ok (.getfield 29, 3) := by decide +kernel
theorem dX1_hasArrived_4 : decode cX1_hasArrived 4 = .ok (.iload_n 1, 1) := by decide +kernel
theorem dX1_hasArrived_5 : decode cX1_hasArrived 5 = .ok (.iaload, 1) := by decide +kernel
theorem dX1_hasArrived_6 : decode cX1_hasArrived 6 = .ok (.aload_n 0, 1) := by decide +kernel
theorem dX1_hasArrived_7 : decode cX1_hasArrived 7 = .ok (.getfield 25, 3) := by decide +kernel
theorem dX1_hasArrived_10 : decode cX1_hasArrived 10 = .ok (.iload_n 1, 1) := by decide +kernel
theorem dX1_hasArrived_11 : decode cX1_hasArrived 11 = .ok (.baload, 1) := by decide +kernel
theorem dX1_hasArrived_12 : decode cX1_hasArrived 12 = .ok (.ifCond .eq 7, 3) := by decide +kernel
theorem dX1_hasArrived_15 : decode cX1_hasArrived 15 = .ok (.iconst 4, 1) := by decide +kernel
theorem dX1_hasArrived_16 : decode cX1_hasArrived 16 = .ok (.goto 4, 3) := by decide +kernel
theorem dX1_hasArrived_19 : decode cX1_hasArrived 19 = .ok (.iconst 0, 1) := by decide +kernel
theorem dX1_hasArrived_20 : decode cX1_hasArrived 20 = .ok (.if_icmp .ne 7, 3) := by decide +kernel
theorem dX1_hasArrived_23 : decode cX1_hasArrived 23 = .ok (.iconst 1, 1) := by decide +kernel
theorem dX1_hasArrived_24 : decode cX1_hasArrived 24 = .ok (.goto 4, 3) := by decide +kernel
theorem dX1_hasArrived_27 : decode cX1_hasArrived 27 = .ok (.iconst 0, 1) := by decide +kernel
theorem dX1_hasArrived_28 : decode cX1_hasArrived 28 = .ok (.ireturn, 1) := by decide +kernel
theorem dX1_removeArrived_0 : decode cX1_removeArrived 0 = .ok (.iconst 0, 1) := by decide +kernel
theorem dX1_removeArrived_1 : decode cX1_removeArrived 1 = .ok (.istore_n 1, 1) := by decide +kernel
theorem dX1_removeArrived_2 : decode cX1_removeArrived 2 = .ok (.iconst 0, 1) := by decide +kernel
theorem dX1_removeArrived_3 : decode cX1_removeArrived 3 = .ok (.istore_n 2, 1) := by decide +kernel
theorem dX1_removeArrived_4 : decode cX1_removeArrived 4 = .ok (.iload_n 2, 1) := by decide +kernel
theorem dX1_removeArrived_5 : decode cX1_removeArrived 5 = .ok (.aload_n 0, 1) := by decide +kernel
theorem dX1_removeArrived_6 : decode cX1_removeArrived 6 = .ok (.getfield 9, 3) := by decide +kernel
theorem dX1_removeArrived_9 : decode cX1_removeArrived 9 = .ok (.if_icmp .ge 27, 3) := by decide +kernel
theorem dX1_removeArrived_12 : decode cX1_removeArrived 12 = .ok (.aload_n 0, 1) := by decide +kernel
theorem dX1_removeArrived_13 : decode cX1_removeArrived 13 = .ok (.iload_n 2, 1) := by decide +kernel
theorem dX1_removeArrived_14 : decode cX1_removeArrived 14 = .ok (.invokevirtual 50, 3) := by decide +kernel
theorem dX1_removeArrived_17 : decode cX1_removeArrived 17 = .ok (.ifCond .ne 13, 3) := by decide +kernel
theorem dX1_removeArrived_20 : decode cX1_removeArrived 20 = .ok (.aload_n 0, 1) := by decide +kernel
theorem dX1_removeArrived_21 : decode cX1_removeArrived 21 = .ok (.aload_n 0, 1) := by decide +kernel
theorem dX1_removeArrived_22 : decode cX1_removeArrived 22 = .ok (.iload_n 2, 1) := by decide +kernel
theorem dX1_removeArrived_23 : decode cX1_removeArrived 23 = .ok (.iload_n 1, 1) := by decide +kernel
theorem dX1_removeArrived_24 : decode cX1_removeArrived 24 = .ok (.invokevirtual 38, 3) := by decide +kernel
theorem dX1_removeArrived_27 : decode cX1_removeArrived 27 = .ok (.iinc 1 1, 3) := by decide +kernel
theorem dX1_removeArrived_30 : decode cX1_removeArrived 30 = .ok (.iinc 2 1, 3) := by decide +kernel
theorem dX1_removeArrived_33 : decode cX1_removeArrived 33 = .ok (.goto (-29), 3) := by decide +kernel
theorem dX1_removeArrived_36 : decode cX1_removeArrived 36 = .ok (.aload_n 0, 1) := by decide +kernel
theorem dX1_removeArrived_37 : decode cX1_removeArrived 37 = .ok (.getfield 9, 3) := by decide +kernel
theorem dX1_removeArrived_40 : decode cX1_removeArrived 40 = .ok (.iload_n 1, 1) := by decide +kernel
theorem dX1_removeArrived_41 : decode cX1_removeArrived 41 = .ok (.isub, 1) := by decide +kernel
theorem dX1_removeArrived_42 : decode cX1_removeArrived 42 = .ok (.istore_n 2, 1) := by decide +kernel
theorem dX1_removeArrived_43 : decode cX1_removeArrived 43 = .ok (.aload_n 0, 1) := by decide +kernel
theorem dX1_removeArrived_44 : decode cX1_removeArrived 44 = .ok (.iload_n 1, 1) := by decide +kernel
theorem dX1_removeArrived_45 : decode cX1_removeArrived 45 = .ok (.putfield 9, 3) := by decide +kernel
theorem dX1_removeArrived_48 : decode cX1_removeArrived 48 = .ok (.iload_n 2, 1) := by decide +kernel
theorem dX1_removeArrived_49 : decode cX1_removeArrived 49 = .ok (.ireturn, 1) := by decide +kernel
theorem dX1_copyBoat_0 : decode cX1_copyBoat 0 = .ok (.aload_n 0, 1) := by decide +kernel
theorem dX1_copyBoat_1 : decode cX1_copyBoat 1 = .ok (.getfield 18, 3) := by decide +kernel
theorem dX1_copyBoat_4 : decode cX1_copyBoat 4 = .ok (.iload_n 3, 1) := by decide +kernel
theorem dX1_copyBoat_5 : decode cX1_copyBoat 5 = .ok (.aload_n 1, 1) := by decide +kernel
theorem dX1_copyBoat_6 : decode cX1_copyBoat 6 = .ok (.getfield 18, 3) := by decide +kernel
theorem dX1_copyBoat_9 : decode cX1_copyBoat 9 = .ok (.iload_n 2, 1) := by decide +kernel
theorem dX1_copyBoat_10 : decode cX1_copyBoat 10 = .ok (.iaload, 1) := by decide +kernel
theorem dX1_copyBoat_11 : decode cX1_copyBoat 11 = .ok (.iastore, 1) := by decide +kernel
theorem dX1_copyBoat_12 : decode cX1_copyBoat 12 = .ok (.aload_n 0, 1) := by decide +kernel
theorem dX1_copyBoat_13 : decode cX1_copyBoat 13 = .ok (.getfield 22, 3) := by decide +kernel
theorem dX1_copyBoat_16 : decode cX1_copyBoat 16 = .ok (.iload_n 3, 1) := by decide +kernel
theorem dX1_copyBoat_17 : decode cX1_copyBoat 17 = .ok (.aload_n 1, 1) := by decide +kernel
theorem dX1_copyBoat_18 : decode cX1_copyBoat 18 = .ok (.getfield 22, 3) := by decide +kernel
theorem dX1_copyBoat_21 : decode cX1_copyBoat 21 = .ok (.iload_n 2, 1) := by decide +kernel
theorem dX1_copyBoat_22 : decode cX1_copyBoat 22 = .ok (.iaload, 1) := by decide +kernel
theorem dX1_copyBoat_23 : decode cX1_copyBoat 23 = .ok (.iastore, 1) := by decide +kernel
theorem dX1_copyBoat_24 : decode cX1_copyBoat 24 = .ok (.aload_n 0, 1) := by decide +kernel
theorem dX1_copyBoat_25 : decode cX1_copyBoat 25 = .ok (.getfield 25, 3) := by decide +kernel
theorem dX1_copyBoat_28 : decode cX1_copyBoat 28 = .ok (.iload_n 3, 1) := by decide +kernel
theorem dX1_copyBoat_29 : decode cX1_copyBoat 29 = .ok (.aload_n 1, 1) := by decide +kernel
theorem dX1_copyBoat_30 : decode cX1_copyBoat 30 = .ok (.getfield 25, 3) := by decide +kernel
theorem dX1_copyBoat_33 : decode cX1_copyBoat 33 = .ok (.iload_n 2, 1) := by decide +kernel
theorem dX1_copyBoat_34 : decode cX1_copyBoat 34 = .ok (.baload, 1) := by decide +kernel
theorem dX1_copyBoat_35 : decode cX1_copyBoat 35 = .ok (.bastore, 1) := by decide +kernel
theorem dX1_copyBoat_36 : decode cX1_copyBoat 36 = .ok (.aload_n 0, 1) := by decide +kernel
theorem dX1_copyBoat_37 : decode cX1_copyBoat 37 = .ok (.getfield 29, 3) := by decide +kernel
theorem dX1_copyBoat_40 : decode cX1_copyBoat 40 = .ok (.iload_n 3, 1) := by decide +kernel
theorem dX1_copyBoat_41 : decode cX1_copyBoat 41 = .ok (.aload_n 1, 1) := by decide +kernel
theorem dX1_copyBoat_42 : decode cX1_copyBoat 42 = .ok (.getfield 29, 3) := by decide +kernel
theorem dX1_copyBoat_45 : decode cX1_copyBoat 45 = .ok (.iload_n 2, 1) := by decide +kernel
theorem dX1_copyBoat_46 : decode cX1_copyBoat 46 = .ok (.iaload, 1) := by decide +kernel
theorem dX1_copyBoat_47 : decode cX1_copyBoat 47 = .ok (.iastore, 1) := by decide +kernel
theorem dX1_copyBoat_48 : decode cX1_copyBoat 48 = .ok (.aload_n 0, 1) := by decide +kernel
theorem dX1_copyBoat_49 : decode cX1_copyBoat 49 = .ok (.getfield 32, 3) := by decide +kernel
theorem dX1_copyBoat_52 : decode cX1_copyBoat 52 = .ok (.iload_n 3, 1) := by decide +kernel
theorem dX1_copyBoat_53 : decode cX1_copyBoat 53 = .ok (.aload_n 1, 1) := by decide +kernel
theorem dX1_copyBoat_54 : decode cX1_copyBoat 54 = .ok (.getfield 32, 3) := by decide +kernel
theorem dX1_copyBoat_57 : decode cX1_copyBoat 57 = .ok (.iload_n 2, 1) := by decide +kernel
theorem dX1_copyBoat_58 : decode cX1_copyBoat 58 = .ok (.iaload, 1) := by decide +kernel
theorem dX1_copyBoat_59 : decode cX1_copyBoat 59 = .ok (.iastore, 1) := by decide +kernel
theorem dX1_copyBoat_60 : decode cX1_copyBoat 60 = .ok (.return_, 1) := by decide +kernel
theorem dX2_init_0 : decode cX2_init 0 = .ok (.aload_n 0, 1) := by decide +kernel
theorem dX2_init_1 : decode cX2_init 1 = .ok (.invokespecial 3, 3) := by decide +kernel
theorem dX2_init_4 : decode cX2_init 4 = .ok (.aload_n 0, 1) := by decide +kernel
theorem dX2_init_5 : decode cX2_init 5 = .ok (.new 9, 3) := by decide +kernel
theorem dX2_init_8 : decode cX2_init 8 = .ok (.dup, 1) := by decide +kernel
theorem dX2_init_9 : decode cX2_init 9 = .ok (.invokespecial 11, 3) := by decide +kernel
theorem dX2_init_12 : decode cX2_init 12 = .ok (.putfield 12, 3) := by decide +kernel
theorem dX2_init_15 : decode cX2_init 15 = .ok (.aload_n 0, 1) := by decide +kernel
theorem dX2_init_16 : decode cX2_init 16 = .ok (.new 18, 3) := by decide +kernel
theorem dX2_init_19 : decode cX2_init 19 = .ok (.dup, 1) := by decide +kernel
theorem dX2_init_20 : decode cX2_init 20 = .ok (.invokespecial 20, 3) := by decide +kernel
theorem dX2_init_23 : decode cX2_init 23 = .ok (.putfield 21, 3) := by decide +kernel
theorem dX2_init_26 : decode cX2_init 26 = .ok (.aload_n 0, 1) := by decide +kernel
theorem dX2_init_27 : decode cX2_init 27 = .ok (.new 25, 3) := by decide +kernel
theorem dX2_init_30 : decode cX2_init 30 = .ok (.dup, 1) := by decide +kernel
theorem dX2_init_31 : decode cX2_init 31 = .ok (.invokespecial 27, 3) := by decide +kernel
theorem dX2_init_34 : decode cX2_init 34 = .ok (.putfield 28, 3) := by decide +kernel
theorem dX2_init_37 : decode cX2_init 37 = .ok (.aload_n 0, 1) := by decide +kernel
theorem dX2_init_38 : decode cX2_init 38 = .ok (.iconst 0, 1) := by decide +kernel
theorem dX2_init_39 : decode cX2_init 39 = .ok (.putfield 32, 3) := by decide +kernel
theorem dX2_init_42 : decode cX2_init 42 = .ok (.return_, 1) := by decide +kernel
theorem dX2_copyFrom_0 : decode cX2_copyFrom 0 = .ok (.aload_n 0, 1) := by decide +kernel
theorem dX2_copyFrom_1 : decode cX2_copyFrom 1 = .ok (.getfield 12, 3) := by decide +kernel
theorem dX2_copyFrom_4 : decode cX2_copyFrom 4 = .ok (.aload_n 1, 1) := by decide +kernel
theorem dX2_copyFrom_5 : decode cX2_copyFrom 5 = .ok (.getfield 12, 3) := by decide +kernel
theorem dX2_copyFrom_8 : decode cX2_copyFrom 8 = .ok (.invokevirtual 36, 3) := by decide +kernel
theorem dX2_copyFrom_11 : decode cX2_copyFrom 11 = .ok (.aload_n 0, 1) := by decide +kernel
theorem dX2_copyFrom_12 : decode cX2_copyFrom 12 = .ok (.getfield 21, 3) := by decide +kernel
theorem dX2_copyFrom_15 : decode cX2_copyFrom 15 = .ok (.aload_n 1, 1) := by decide +kernel
theorem dX2_copyFrom_16 : decode cX2_copyFrom 16 = .ok (.getfield 21, 3) := by decide +kernel
theorem dX2_copyFrom_19 : decode cX2_copyFrom 19 = .ok (.invokevirtual 40, 3) := by decide +kernel
theorem dX2_copyFrom_22 : decode cX2_copyFrom 22 = .ok (.aload_n 0, 1) := by decide +kernel
theorem dX2_copyFrom_23 : decode cX2_copyFrom 23 = .ok (.getfield 28, 3) := by decide +kernel
theorem dX2_copyFrom_26 : decode cX2_copyFrom 26 = .ok (.aload_n 1, 1) := by decide +kernel
theorem dX2_copyFrom_27 : decode cX2_copyFrom 27 = .ok (.getfield 28, 3) := by decide +kernel
theorem dX2_copyFrom_30 : decode cX2_copyFrom 30 = .ok (.invokevirtual 44, 3) := by decide +kernel
theorem dX2_copyFrom_33 : decode cX2_copyFrom 33 = .ok (.aload_n 0, 1) := by decide +kernel
theorem dX2_copyFrom_34 : decode cX2_copyFrom 34 = .ok (.aload_n 1, 1) := by decide +kernel
theorem dX2_copyFrom_35 : decode cX2_copyFrom 35 = .ok (.getfield 32, 3) := by decide +kernel
theorem dX2_copyFrom_38 : decode cX2_copyFrom 38 = .ok (.putfield 32, 3) := by decide +kernel
theorem dX2_copyFrom_41 : decode cX2_copyFrom 41 = .ok (.return_, 1) := by decide +kernel
theorem dX2_faultOf_0 : decode cX2_faultOf 0 = .ok (.iload_n 1, 1) := by decide +kernel
theorem dX2_faultOf_1 : decode cX2_faultOf 1 = .ok (.lookupswitch 101 #[(98, 59), (100, 85), (111, 73), (114, 85), (115, 79), (118, 66)], 59) := by decide +kernel
theorem dX2_faultOf_60 : decode cX2_faultOf 60 = .ok (.aload_n 0, 1) := by decide +kernel
theorem dX2_faultOf_61 : decode cX2_faultOf 61 = .ok (.iload_n 2, 1) := by decide +kernel
theorem dX2_faultOf_62 : decode cX2_faultOf 62 = .ok (.iload_n 3, 1) := by decide +kernel
theorem dX2_faultOf_63 : decode cX2_faultOf 63 = .ok (.invokevirtual 48, 3) := by decide +kernel
theorem dX2_faultOf_66 : decode cX2_faultOf 66 = .ok (.ireturn, 1) := by decide +kernel
theorem dX2_faultOf_67 : decode cX2_faultOf 67 = .ok (.aload_n 0, 1) := by decide +kernel
theorem dX2_faultOf_68 : decode cX2_faultOf 68 = .ok (.iload_n 2, 1) := by decide +kernel
theorem dX2_faultOf_69 : decode cX2_faultOf 69 = .ok (.iload_n 3, 1) := by decide +kernel
theorem dX2_faultOf_70 : decode cX2_faultOf 70 = .ok (.invokevirtual 52, 3) := by decide +kernel
theorem dX2_faultOf_73 : decode cX2_faultOf 73 = .ok (.ireturn, 1) := by decide +kernel
theorem dX2_faultOf_74 : decode cX2_faultOf 74 = .ok (.aload_n 0, 1) := by decide +kernel
theorem dX2_faultOf_75 : decode cX2_faultOf 75 = .ok (.iload_n 2, 1) := by decide +kernel
theorem dX2_faultOf_76 : decode cX2_faultOf 76 = .ok (.invokevirtual 55, 3) := by decide +kernel
theorem dX2_faultOf_79 : decode cX2_faultOf 79 = .ok (.ireturn, 1) := by decide +kernel
theorem dX2_faultOf_80 : decode cX2_faultOf 80 = .ok (.aload_n 0, 1) := by decide +kernel
theorem dX2_faultOf_81 : decode cX2_faultOf 81 = .ok (.iload_n 2, 1) := by decide +kernel
theorem dX2_faultOf_82 : decode cX2_faultOf 82 = .ok (.invokevirtual 59, 3) := by decide +kernel
theorem dX2_faultOf_85 : decode cX2_faultOf 85 = .ok (.ireturn, 1) := by decide +kernel
theorem dX2_faultOf_86 : decode cX2_faultOf 86 = .ok (.iload_n 2, 1) := by decide +kernel
theorem dX2_faultOf_87 : decode cX2_faultOf 87 = .ok (.ifCond .lt 9, 3) := by decide +kernel
theorem dX2_faultOf_90 : decode cX2_faultOf 90 = .ok (.iload_n 2, 1) := by decide +kernel
theorem dX2_faultOf_91 : decode cX2_faultOf 91 = .ok (.bipush 9, 2) := by decide +kernel
theorem dX2_faultOf_93 : decode cX2_faultOf 93 = .ok (.if_icmp .le 7, 3) := by decide +kernel
theorem dX2_faultOf_96 : decode cX2_faultOf 96 = .ok (.iconst 2, 1) := by decide +kernel
theorem dX2_faultOf_97 : decode cX2_faultOf 97 = .ok (.goto 4, 3) := by decide +kernel
theorem dX2_faultOf_100 : decode cX2_faultOf 100 = .ok (.iconst 0, 1) := by decide +kernel
theorem dX2_faultOf_101 : decode cX2_faultOf 101 = .ok (.ireturn, 1) := by decide +kernel
theorem dX2_faultOf_102 : decode cX2_faultOf 102 = .ok (.iload_n 2, 1) := by decide +kernel
theorem dX2_faultOf_103 : decode cX2_faultOf 103 = .ok (.iconst 1, 1) := by decide +kernel
theorem dX2_faultOf_104 : decode cX2_faultOf 104 = .ok (.if_icmp .lt 10, 3) := by decide +kernel
theorem dX2_faultOf_107 : decode cX2_faultOf 107 = .ok (.iload_n 2, 1) := by decide +kernel
theorem dX2_faultOf_108 : decode cX2_faultOf 108 = .ok (.sipush 200, 3) := by decide +kernel
theorem dX2_faultOf_111 : decode cX2_faultOf 111 = .ok (.if_icmp .le 7, 3) := by decide +kernel
theorem dX2_faultOf_114 : decode cX2_faultOf 114 = .ok (.iconst 2, 1) := by decide +kernel
theorem dX2_faultOf_115 : decode cX2_faultOf 115 = .ok (.goto 4, 3) := by decide +kernel
theorem dX2_faultOf_118 : decode cX2_faultOf 118 = .ok (.iconst 0, 1) := by decide +kernel
theorem dX2_faultOf_119 : decode cX2_faultOf 119 = .ok (.ireturn, 1) := by decide +kernel
theorem dX2_faultOfBoat_0 : decode cX2_faultOfBoat 0 = .ok (.iload_n 1, 1) := by decide +kernel
theorem dX2_faultOfBoat_1 : decode cX2_faultOfBoat 1 = .ok (.invokestatic 62, 3) := by decide +kernel
theorem dX2_faultOfBoat_4 : decode cX2_faultOfBoat 4 = .ok (.iconst (-1), 1) := by decide +kernel
theorem dX2_faultOfBoat_5 : decode cX2_faultOfBoat 5 = .ok (.if_icmp .eq 14, 3) := by decide +kernel
theorem dX2_faultOfBoat_8 : decode cX2_faultOfBoat 8 = .ok (.iload_n 2, 1) := by decide +kernel
theorem dX2_faultOfBoat_9 : decode cX2_faultOfBoat 9 = .ok (.iconst 1, 1) := by decide +kernel
theorem dX2_faultOfBoat_10 : decode cX2_faultOfBoat 10 = .ok (.if_icmp .lt 9, 3) := by decide +kernel
theorem dX2_faultOfBoat_13 : decode cX2_faultOfBoat 13 = .ok (.iload_n 2, 1) := by decide +kernel
theorem dX2_faultOfBoat_14 : decode cX2_faultOfBoat 14 = .ok (.bipush 9, 2) := by decide +kernel
theorem dX2_faultOfBoat_16 : decode cX2_faultOfBoat 16 = .ok (.if_icmp .le 5, 3) := by decide +kernel
theorem dX2_faultOfBoat_19 : decode cX2_faultOfBoat 19 = .ok (.iconst 2, 1) := by decide +kernel
theorem dX2_faultOfBoat_20 : decode cX2_faultOfBoat 20 = .ok (.ireturn, 1) := by decide +kernel
theorem dX2_faultOfBoat_21 : decode cX2_faultOfBoat 21 = .ok (.aload_n 0, 1) := by decide +kernel
theorem dX2_faultOfBoat_22 : decode cX2_faultOfBoat 22 = .ok (.getfield 21, 3) := by decide +kernel
theorem dX2_faultOfBoat_25 : decode cX2_faultOfBoat 25 = .ok (.getfield 65, 3) := by decide +kernel
theorem dX2_faultOfBoat_28 : decode cX2_faultOfBoat 28 = .ok (.bipush 8, 2) := by decide +kernel
theorem dX2_faultOfBoat_30 : decode cX2_faultOfBoat 30 = .ok (.if_icmp .lt 7, 3) := by decide +kernel
theorem dX2_faultOfBoat_33 : decode cX2_faultOfBoat 33 = .ok (.iconst 3, 1) := by decide +kernel
theorem dX2_faultOfBoat_34 : decode cX2_faultOfBoat 34 = .ok (.goto 4, 3) := by decide +kernel
theorem dX2_faultOfBoat_37 : decode cX2_faultOfBoat 37 = .ok (.iconst 0, 1) := by decide +kernel
theorem dX2_faultOfBoat_38 : decode cX2_faultOfBoat 38 = .ok (.ireturn, 1) := by decide +kernel
theorem dX2_faultOfValve_0 : decode cX2_faultOfValve 0 = .ok (.iload_n 1, 1) := by decide +kernel
theorem dX2_faultOfValve_1 : decode cX2_faultOfValve 1 = .ok (.invokestatic 68, 3) := by decide +kernel
theorem dX2_faultOfValve_4 : decode cX2_faultOfValve 4 = .ok (.ifCond .ne 5, 3) := by decide +kernel
theorem dX2_faultOfValve_7 : decode cX2_faultOfValve 7 = .ok (.iconst 1, 1) := by decide +kernel
theorem dX2_faultOfValve_8 : decode cX2_faultOfValve 8 = .ok (.ireturn, 1) := by decide +kernel
theorem dX2_faultOfValve_9 : decode cX2_faultOfValve 9 = .ok (.iload_n 2, 1) := by decide +kernel
theorem dX2_faultOfValve_10 : decode cX2_faultOfValve 10 = .ok (.ifCond .lt 8, 3) := by decide +kernel
theorem dX2_faultOfValve_13 : decode cX2_faultOfValve 13 = .ok (.iload_n 2, 1) := by decide +kernel
theorem dX2_faultOfValve_14 : decode cX2_faultOfValve 14 = .ok (.iconst 3, 1) := by decide +kernel
theorem dX2_faultOfValve_15 : decode cX2_faultOfValve 15 = .ok (.if_icmp .le 7, 3) := by decide +kernel
theorem dX2_faultOfValve_18 : decode cX2_faultOfValve 18 = .ok (.iconst 2, 1) := by decide +kernel
theorem dX2_faultOfValve_19 : decode cX2_faultOfValve 19 = .ok (.goto 4, 3) := by decide +kernel
theorem dX2_faultOfValve_22 : decode cX2_faultOfValve 22 = .ok (.iconst 0, 1) := by decide +kernel
theorem dX2_faultOfValve_23 : decode cX2_faultOfValve 23 = .ok (.ireturn, 1) := by decide +kernel
theorem dX2_faultOfOpening_0 : decode cX2_faultOfOpening 0 = .ok (.iload_n 1, 1) := by decide +kernel
theorem dX2_faultOfOpening_1 : decode cX2_faultOfOpening 1 = .ok (.invokestatic 68, 3) := by decide +kernel
theorem dX2_faultOfOpening_4 : decode cX2_faultOfOpening 4 = .ok (.ifCond .ne 5, 3) := by decide +kernel
theorem dX2_faultOfOpening_7 : decode cX2_faultOfOpening 7 = .ok (.iconst 1, 1) := by decide +kernel
theorem dX2_faultOfOpening_8 : decode cX2_faultOfOpening 8 = .ok (.ireturn, 1) := by decide +kernel
theorem dX2_faultOfOpening_9 : decode cX2_faultOfOpening 9 = .ok (.aload_n 0, 1) := by decide +kernel
theorem dX2_faultOfOpening_10 : decode cX2_faultOfOpening 10 = .ok (.getfield 12, 3) := by decide +kernel
theorem dX2_faultOfOpening_13 : decode cX2_faultOfOpening 13 = .ok (.getfield 72, 3) := by decide +kernel
theorem dX2_faultOfOpening_16 : decode cX2_faultOfOpening 16 = .ok (.iload_n 1, 1) := by decide +kernel
theorem dX2_faultOfOpening_17 : decode cX2_faultOfOpening 17 = .ok (.baload, 1) := by decide +kernel
theorem dX2_faultOfOpening_18 : decode cX2_faultOfOpening 18 = .ok (.ifCond .eq 5, 3) := by decide +kernel
theorem dX2_faultOfOpening_21 : decode cX2_faultOfOpening 21 = .ok (.iconst 3, 1) := by decide +kernel
theorem dX2_faultOfOpening_22 : decode cX2_faultOfOpening 22 = .ok (.ireturn, 1) := by decide +kernel
theorem dX2_faultOfOpening_23 : decode cX2_faultOfOpening 23 = .ok (.aload_n 0, 1) := by decide +kernel
theorem dX2_faultOfOpening_24 : decode cX2_faultOfOpening 24 = .ok (.getfield 12, 3) := by decide +kernel
theorem dX2_faultOfOpening_27 : decode cX2_faultOfOpening 27 = .ok (.iload_n 1, 1) := by decide +kernel
theorem dX2_faultOfOpening_28 : decode cX2_faultOfOpening 28 = .ok (.invokevirtual 76, 3) := by decide +kernel
theorem dX2_faultOfOpening_31 : decode cX2_faultOfOpening 31 = .ok (.ifCond .eq 7, 3) := by decide +kernel
theorem dX2_faultOfOpening_34 : decode cX2_faultOfOpening 34 = .ok (.iconst 4, 1) := by decide +kernel
theorem dX2_faultOfOpening_35 : decode cX2_faultOfOpening 35 = .ok (.goto 4, 3) := by decide +kernel
theorem dX2_faultOfOpening_38 : decode cX2_faultOfOpening 38 = .ok (.iconst 0, 1) := by decide +kernel
theorem dX2_faultOfOpening_39 : decode cX2_faultOfOpening 39 = .ok (.ireturn, 1) := by decide +kernel
theorem dX2_faultOfShutting_0 : decode cX2_faultOfShutting 0 = .ok (.iload_n 1, 1) := by decide +kernel
theorem dX2_faultOfShutting_1 : decode cX2_faultOfShutting 1 = .ok (.invokestatic 68, 3) := by decide +kernel
theorem dX2_faultOfShutting_4 : decode cX2_faultOfShutting 4 = .ok (.ifCond .ne 5, 3) := by decide +kernel
theorem dX2_faultOfShutting_7 : decode cX2_faultOfShutting 7 = .ok (.iconst 1, 1) := by decide +kernel
theorem dX2_faultOfShutting_8 : decode cX2_faultOfShutting 8 = .ok (.ireturn, 1) := by decide +kernel
theorem dX2_faultOfShutting_9 : decode cX2_faultOfShutting 9 = .ok (.aload_n 0, 1) := by decide +kernel
theorem dX2_faultOfShutting_10 : decode cX2_faultOfShutting 10 = .ok (.getfield 12, 3) := by decide +kernel
theorem dX2_faultOfShutting_13 : decode cX2_faultOfShutting 13 = .ok (.getfield 72, 3) := by decide +kernel
theorem dX2_faultOfShutting_16 : decode cX2_faultOfShutting 16 = .ok (.iload_n 1, 1) := by decide +kernel
theorem dX2_faultOfShutting_17 : decode cX2_faultOfShutting 17 = .ok (.baload, 1) := by decide +kernel
theorem dX2_faultOfShutting_18 : decode cX2_faultOfShutting 18 = .ok (.ifCond .eq 7, 3) := by decide +kernel
theorem dX2_faultOfShutting_21 : decode cX2_faultOfShutting 21 = .ok (.iconst 0, 1) := by decide +kernel
theorem dX2_faultOfShutting_22 : decode cX2_faultOfShutting 22 = .ok (.goto 4, 3) := by decide +kernel
theorem dX2_faultOfShutting_25 : decode cX2_faultOfShutting 25 = .ok (.iconst 3, 1) := by decide +kernel
theorem dX2_faultOfShutting_26 : decode cX2_faultOfShutting 26 = .ok (.ireturn, 1) := by decide +kernel
theorem dX2_act_0 : decode cX2_act 0 = .ok (.iload_n 1, 1) := by decide +kernel
theorem dX2_act_1 : decode cX2_act 1 = .ok (.lookupswitch 116 #[(98, 59), (100, 110), (111, 90), (114, 104), (115, 97), (118, 83)], 59) := by decide +kernel
theorem dX2_act_60 : decode cX2_act 60 = .ok (.aload_n 0, 1) := by decide +kernel
theorem dX2_act_61 : decode cX2_act 61 = .ok (.getfield 21, 3) := by decide +kernel
theorem dX2_act_64 : decode cX2_act 64 = .ok (.iload_n 2, 1) := by decide +kernel
theorem dX2_act_65 : decode cX2_act 65 = .ok (.invokestatic 62, 3) := by decide +kernel
theorem dX2_act_68 : decode cX2_act 68 = .ok (.iload_n 3, 1) := by decide +kernel
theorem dX2_act_69 : decode cX2_act 69 = .ok (.iload 4, 2) := by decide +kernel
theorem dX2_act_71 : decode cX2_act 71 = .ok (.iconst 1, 1) := by decide +kernel
theorem dX2_act_72 : decode cX2_act 72 = .ok (.if_icmp .ne 7, 3) := by decide +kernel
theorem dX2_act_75 : decode cX2_act 75 = .ok (.iconst 1, 1) := by decide +kernel
theorem dX2_act_76 : decode cX2_act 76 = .ok (.goto 4, 3) := by decide +kernel
theorem dX2_act_79 : decode cX2_act 79 = .ok (.iconst 0, 1) := by decide +kernel
theorem dX2_act_80 : decode cX2_act 80 = .ok (.invokevirtual 79, 3) := by decide +kernel
theorem dX2_act_83 : decode cX2_act 83 = .ok (.ireturn, 1) := by decide +kernel
theorem dX2_act_84 : decode cX2_act 84 = .ok (.aload_n 0, 1) := by decide +kernel
theorem dX2_act_85 : decode cX2_act 85 = .ok (.iload_n 2, 1) := by decide +kernel
theorem dX2_act_86 : decode cX2_act 86 = .ok (.iload_n 3, 1) := by decide +kernel
theorem dX2_act_87 : decode cX2_act 87 = .ok (.invokevirtual 83, 3) := by decide +kernel
theorem dX2_act_90 : decode cX2_act 90 = .ok (.ireturn, 1) := by decide +kernel
theorem dX2_act_91 : decode cX2_act 91 = .ok (.aload_n 0, 1) := by decide +kernel
theorem dX2_act_92 : decode cX2_act 92 = .ok (.iload_n 2, 1) := by decide +kernel
theorem dX2_act_93 : decode cX2_act 93 = .ok (.iconst 1, 1) := by decide +kernel
theorem dX2_act_94 : decode cX2_act 94 = .ok (.invokevirtual 86, 3) := by decide +kernel
theorem dX2_act_97 : decode cX2_act 97 = .ok (.ireturn, 1) := by decide +kernel
theorem dX2_act_98 : decode cX2_act 98 = .ok (.aload_n 0, 1) := by decide +kernel
theorem dX2_act_99 : decode cX2_act 99 = .ok (.iload_n 2, 1) := by decide +kernel
theorem dX2_act_100 : decode cX2_act 100 = .ok (.iconst 0, 1) := by decide +kernel
theorem dX2_act_101 : decode cX2_act 101 = .ok (.invokevirtual 86, 3) := by decide +kernel
theorem dX2_act_104 : decode cX2_act 104 = .ok (.ireturn, 1) := by decide +kernel
theorem dX2_act_105 : decode cX2_act 105 = .ok (.aload_n 0, 1) := by decide +kernel
theorem dX2_act_106 : decode cX2_act 106 = .ok (.iload_n 2, 1) := by decide +kernel
theorem dX2_act_107 : decode cX2_act 107 = .ok (.invokevirtual 90, 3) := by decide +kernel
theorem dX2_act_110 : decode cX2_act 110 = .ok (.ireturn, 1) := by decide +kernel
theorem dX2_act_111 : decode cX2_act 111 = .ok (.aload_n 0, 1) := by decide +kernel
theorem dX2_act_112 : decode cX2_act 112 = .ok (.iload_n 2, 1) := by decide +kernel
theorem dX2_act_113 : decode cX2_act 113 = .ok (.invokevirtual 93, 3) := by decide +kernel
theorem dX2_act_116 : decode cX2_act 116 = .ok (.ireturn, 1) := by decide +kernel
theorem dX2_act_117 : decode cX2_act 117 = .ok (.aload_n 0, 1) := by decide +kernel
theorem dX2_act_118 : decode cX2_act 118 = .ok (.iload_n 2, 1) := by decide +kernel
theorem dX2_act_119 : decode cX2_act 119 = .ok (.invokevirtual 96, 3) := by decide +kernel
theorem dX2_act_122 : decode cX2_act 122 = .ok (.ireturn, 1) := by decide +kernel
theorem dX2_turnValve_0 : decode cX2_turnValve 0 = .ok (.aload_n 0, 1) := by decide +kernel
theorem dX2_turnValve_1 : decode cX2_turnValve 1 = .ok (.getfield 12, 3) := by decide +kernel
theorem dX2_turnValve_4 : decode cX2_turnValve 4 = .ok (.getfield 99, 3) := by decide +kernel
theorem dX2_turnValve_7 : decode cX2_turnValve 7 = .ok (.iload_n 1, 1) := by decide +kernel
theorem dX2_turnValve_8 : decode cX2_turnValve 8 = .ok (.iaload, 1) := by decide +kernel
theorem dX2_turnValve_9 : decode cX2_turnValve 9 = .ok (.istore_n 3, 1) := by decide +kernel
theorem dX2_turnValve_10 : decode cX2_turnValve 10 = .ok (.aload_n 0, 1) := by decide +kernel
theorem dX2_turnValve_11 : decode cX2_turnValve 11 = .ok (.getfield 12, 3) := by decide +kernel
theorem dX2_turnValve_14 : decode cX2_turnValve 14 = .ok (.getfield 99, 3) := by decide +kernel
theorem dX2_turnValve_17 : decode cX2_turnValve 17 = .ok (.iload_n 1, 1) := by decide +kernel
theorem dX2_turnValve_18 : decode cX2_turnValve 18 = .ok (.iload_n 2, 1) := by decide +kernel
theorem dX2_turnValve_19 : decode cX2_turnValve 19 = .ok (.iastore, 1) := by decide +kernel
theorem dX2_turnValve_20 : decode cX2_turnValve 20 = .ok (.iload_n 3, 1) := by decide +kernel
theorem dX2_turnValve_21 : decode cX2_turnValve 21 = .ok (.ireturn, 1) := by decide +kernel
theorem dX2_moveGate_0 : decode cX2_moveGate 0 = .ok (.aload_n 0, 1) := by decide +kernel
theorem dX2_moveGate_1 : decode cX2_moveGate 1 = .ok (.getfield 12, 3) := by decide +kernel
theorem dX2_moveGate_4 : decode cX2_moveGate 4 = .ok (.getfield 72, 3) := by decide +kernel
theorem dX2_moveGate_7 : decode cX2_moveGate 7 = .ok (.iload_n 1, 1) := by decide +kernel
theorem dX2_moveGate_8 : decode cX2_moveGate 8 = .ok (.iload_n 2, 1) := by decide +kernel
theorem dX2_moveGate_9 : decode cX2_moveGate 9 = .ok (.bastore, 1) := by decide +kernel
theorem dX2_moveGate_10 : decode cX2_moveGate 10 = .ok (.aload_n 0, 1) := by decide +kernel
theorem dX2_moveGate_11 : decode cX2_moveGate 11 = .ok (.getfield 12, 3) := by decide +kernel
theorem dX2_moveGate_14 : decode cX2_moveGate 14 = .ok (.invokevirtual 103, 3) := by decide +kernel
theorem dX2_moveGate_17 : decode cX2_moveGate 17 = .ok (.ireturn, 1) := by decide +kernel
theorem dX2_changeRain_0 : decode cX2_changeRain 0 = .ok (.aload_n 0, 1) := by decide +kernel
theorem dX2_changeRain_1 : decode cX2_changeRain 1 = .ok (.getfield 12, 3) := by decide +kernel
theorem dX2_changeRain_4 : decode cX2_changeRain 4 = .ok (.getfield 107, 3) := by decide +kernel
theorem dX2_changeRain_7 : decode cX2_changeRain 7 = .ok (.istore_n 2, 1) := by decide +kernel
theorem dX2_changeRain_8 : decode cX2_changeRain 8 = .ok (.aload_n 0, 1) := by decide +kernel
theorem dX2_changeRain_9 : decode cX2_changeRain 9 = .ok (.getfield 12, 3) := by decide +kernel
theorem dX2_changeRain_12 : decode cX2_changeRain 12 = .ok (.iload_n 1, 1) := by decide +kernel
theorem dX2_changeRain_13 : decode cX2_changeRain 13 = .ok (.putfield 107, 3) := by decide +kernel
theorem dX2_changeRain_16 : decode cX2_changeRain 16 = .ok (.iload_n 2, 1) := by decide +kernel
theorem dX2_changeRain_17 : decode cX2_changeRain 17 = .ok (.ireturn, 1) := by decide +kernel
theorem dX2_changeDrain_0 : decode cX2_changeDrain 0 = .ok (.aload_n 0, 1) := by decide +kernel
theorem dX2_changeDrain_1 : decode cX2_changeDrain 1 = .ok (.getfield 12, 3) := by decide +kernel
theorem dX2_changeDrain_4 : decode cX2_changeDrain 4 = .ok (.getfield 110, 3) := by decide +kernel
theorem dX2_changeDrain_7 : decode cX2_changeDrain 7 = .ok (.istore_n 2, 1) := by decide +kernel
theorem dX2_changeDrain_8 : decode cX2_changeDrain 8 = .ok (.aload_n 0, 1) := by decide +kernel
theorem dX2_changeDrain_9 : decode cX2_changeDrain 9 = .ok (.getfield 12, 3) := by decide +kernel
theorem dX2_changeDrain_12 : decode cX2_changeDrain 12 = .ok (.iload_n 1, 1) := by decide +kernel
theorem dX2_changeDrain_13 : decode cX2_changeDrain 13 = .ok (.putfield 110, 3) := by decide +kernel
theorem dX2_changeDrain_16 : decode cX2_changeDrain 16 = .ok (.iload_n 2, 1) := by decide +kernel
theorem dX2_changeDrain_17 : decode cX2_changeDrain 17 = .ok (.ireturn, 1) := by decide +kernel
theorem dX2_passMinutes_0 : decode cX2_passMinutes 0 = .ok (.iconst 0, 1) := by decide +kernel
theorem dX2_passMinutes_1 : decode cX2_passMinutes 1 = .ok (.istore_n 2, 1) := by decide +kernel
theorem dX2_passMinutes_2 : decode cX2_passMinutes 2 = .ok (.iconst 0, 1) := by decide +kernel
theorem dX2_passMinutes_3 : decode cX2_passMinutes 3 = .ok (.istore_n 3, 1) := by decide +kernel
theorem dX2_passMinutes_4 : decode cX2_passMinutes 4 = .ok (.iload_n 3, 1) := by decide +kernel
theorem dX2_passMinutes_5 : decode cX2_passMinutes 5 = .ok (.iload_n 1, 1) := by decide +kernel
theorem dX2_passMinutes_6 : decode cX2_passMinutes 6 = .ok (.if_icmp .ge 70, 3) := by decide +kernel
theorem dX2_passMinutes_9 : decode cX2_passMinutes 9 = .ok (.aload_n 0, 1) := by decide +kernel
theorem dX2_passMinutes_10 : decode cX2_passMinutes 10 = .ok (.dup, 1) := by decide +kernel
theorem dX2_passMinutes_11 : decode cX2_passMinutes 11 = .ok (.getfield 32, 3) := by decide +kernel
theorem dX2_passMinutes_14 : decode cX2_passMinutes 14 = .ok (.iconst 1, 1) := by decide +kernel
theorem dX2_passMinutes_15 : decode cX2_passMinutes 15 = .ok (.iadd, 1) := by decide +kernel
theorem dX2_passMinutes_16 : decode cX2_passMinutes 16 = .ok (.putfield 32, 3) := by decide +kernel
theorem dX2_passMinutes_19 : decode cX2_passMinutes 19 = .ok (.aload_n 0, 1) := by decide +kernel
theorem dX2_passMinutes_20 : decode cX2_passMinutes 20 = .ok (.invokevirtual 113, 3) := by decide +kernel
theorem dX2_passMinutes_23 : decode cX2_passMinutes 23 = .ok (.iconst 0, 1) := by decide +kernel
theorem dX2_passMinutes_24 : decode cX2_passMinutes 24 = .ok (.istore 4, 2) := by decide +kernel
theorem dX2_passMinutes_26 : decode cX2_passMinutes 26 = .ok (.iload 4, 2) := by decide +kernel
theorem dX2_passMinutes_28 : decode cX2_passMinutes 28 = .ok (.iconst 4, 1) := by decide +kernel
theorem dX2_passMinutes_29 : decode cX2_passMinutes 29 = .ok (.if_icmp .ge 27, 3) := by decide +kernel
theorem dX2_passMinutes_32 : decode cX2_passMinutes 32 = .ok (.aload_n 0, 1) := by decide +kernel
theorem dX2_passMinutes_33 : decode cX2_passMinutes 33 = .ok (.getfield 12, 3) := by decide +kernel
theorem dX2_passMinutes_36 : decode cX2_passMinutes 36 = .ok (.iload 4, 2) := by decide +kernel
theorem dX2_passMinutes_38 : decode cX2_passMinutes 38 = .ok (.aload_n 0, 1) := by decide +kernel
theorem dX2_passMinutes_39 : decode cX2_passMinutes 39 = .ok (.getfield 12, 3) := by decide +kernel
theorem dX2_passMinutes_42 : decode cX2_passMinutes 42 = .ok (.iload 4, 2) := by decide +kernel
theorem dX2_passMinutes_44 : decode cX2_passMinutes 44 = .ok (.invokevirtual 116, 3) := by decide +kernel
theorem dX2_passMinutes_47 : decode cX2_passMinutes 47 = .ok (.invokevirtual 119, 3) := by decide +kernel
theorem dX2_passMinutes_50 : decode cX2_passMinutes 50 = .ok (.iinc 4 1, 3) := by decide +kernel
theorem dX2_passMinutes_53 : decode cX2_passMinutes 53 = .ok (.goto (-27), 3) := by decide +kernel
theorem dX2_passMinutes_56 : decode cX2_passMinutes 56 = .ok (.aload_n 0, 1) := by decide +kernel
theorem dX2_passMinutes_57 : decode cX2_passMinutes 57 = .ok (.invokevirtual 123, 3) := by decide +kernel
theorem dX2_passMinutes_60 : decode cX2_passMinutes 60 = .ok (.iload_n 2, 1) := by decide +kernel
theorem dX2_passMinutes_61 : decode cX2_passMinutes 61 = .ok (.aload_n 0, 1) := by decide +kernel
theorem dX2_passMinutes_62 : decode cX2_passMinutes 62 = .ok (.getfield 21, 3) := by decide +kernel
theorem dX2_passMinutes_65 : decode cX2_passMinutes 65 = .ok (.invokevirtual 126, 3) := by decide +kernel
theorem dX2_passMinutes_68 : decode cX2_passMinutes 68 = .ok (.iadd, 1) := by decide +kernel
theorem dX2_passMinutes_69 : decode cX2_passMinutes 69 = .ok (.istore_n 2, 1) := by decide +kernel
theorem dX2_passMinutes_70 : decode cX2_passMinutes 70 = .ok (.iinc 3 1, 3) := by decide +kernel
theorem dX2_passMinutes_73 : decode cX2_passMinutes 73 = .ok (.goto (-69), 3) := by decide +kernel
theorem dX2_passMinutes_76 : decode cX2_passMinutes 76 = .ok (.iload_n 2, 1) := by decide +kernel
theorem dX2_passMinutes_77 : decode cX2_passMinutes 77 = .ok (.ireturn, 1) := by decide +kernel
theorem dX2_passWeather_0 : decode cX2_passWeather 0 = .ok (.aload_n 0, 1) := by decide +kernel
theorem dX2_passWeather_1 : decode cX2_passWeather 1 = .ok (.getfield 12, 3) := by decide +kernel
theorem dX2_passWeather_4 : decode cX2_passWeather 4 = .ok (.invokevirtual 129, 3) := by decide +kernel
theorem dX2_passWeather_7 : decode cX2_passWeather 7 = .ok (.istore_n 1, 1) := by decide +kernel
theorem dX2_passWeather_8 : decode cX2_passWeather 8 = .ok (.iload_n 1, 1) := by decide +kernel
theorem dX2_passWeather_9 : decode cX2_passWeather 9 = .ok (.ifCond .le 13, 3) := by decide +kernel
theorem dX2_passWeather_12 : decode cX2_passWeather 12 = .ok (.aload_n 0, 1) := by decide +kernel
theorem dX2_passWeather_13 : decode cX2_passWeather 13 = .ok (.getfield 28, 3) := by decide +kernel
theorem dX2_passWeather_16 : decode cX2_passWeather 16 = .ok (.bipush 115, 2) := by decide +kernel
theorem dX2_passWeather_18 : decode cX2_passWeather 18 = .ok (.iload_n 1, 1) := by decide +kernel
theorem dX2_passWeather_19 : decode cX2_passWeather 19 = .ok (.invokevirtual 132, 3) := by decide +kernel
theorem dX2_passWeather_22 : decode cX2_passWeather 22 = .ok (.aload_n 0, 1) := by decide +kernel
theorem dX2_passWeather_23 : decode cX2_passWeather 23 = .ok (.getfield 12, 3) := by decide +kernel
theorem dX2_passWeather_26 : decode cX2_passWeather 26 = .ok (.invokevirtual 136, 3) := by decide +kernel
theorem dX2_passWeather_29 : decode cX2_passWeather 29 = .ok (.return_, 1) := by decide +kernel
theorem dX2_passGates_0 : decode cX2_passGates 0 = .ok (.iconst 0, 1) := by decide +kernel
theorem dX2_passGates_1 : decode cX2_passGates 1 = .ok (.istore_n 1, 1) := by decide +kernel
theorem dX2_passGates_2 : decode cX2_passGates 2 = .ok (.iconst 0, 1) := by decide +kernel
theorem dX2_passGates_3 : decode cX2_passGates 3 = .ok (.istore_n 2, 1) := by decide +kernel
theorem dX2_passGates_4 : decode cX2_passGates 4 = .ok (.iload_n 2, 1) := by decide +kernel
theorem dX2_passGates_5 : decode cX2_passGates 5 = .ok (.iconst 3, 1) := by decide +kernel
theorem dX2_passGates_6 : decode cX2_passGates 6 = .ok (.if_icmp .ge 68, 3) := by decide +kernel
theorem dX2_passGates_9 : decode cX2_passGates 9 = .ok (.iconst 0, 1) := by decide +kernel
theorem dX2_passGates_10 : decode cX2_passGates 10 = .ok (.istore_n 3, 1) := by decide +kernel
theorem dX2_passGates_11 : decode cX2_passGates 11 = .ok (.iload_n 3, 1) := by decide +kernel
theorem dX2_passGates_12 : decode cX2_passGates 12 = .ok (.aload_n 0, 1) := by decide +kernel
theorem dX2_passGates_13 : decode cX2_passGates 13 = .ok (.getfield 21, 3) := by decide +kernel
theorem dX2_passGates_16 : decode cX2_passGates 16 = .ok (.getfield 65, 3) := by decide +kernel
theorem dX2_passGates_19 : decode cX2_passGates 19 = .ok (.if_icmp .ge 49, 3) := by decide +kernel
theorem dX2_passGates_22 : decode cX2_passGates 22 = .ok (.aload_n 0, 1) := by decide +kernel
theorem dX2_passGates_23 : decode cX2_passGates 23 = .ok (.getfield 21, 3) := by decide +kernel
theorem dX2_passGates_26 : decode cX2_passGates 26 = .ok (.getfield 139, 3) := by decide +kernel
theorem dX2_passGates_29 : decode cX2_passGates 29 = .ok (.iload_n 3, 1) := by decide +kernel
theorem dX2_passGates_30 : decode cX2_passGates 30 = .ok (.iaload, 1) := by decide +kernel
theorem dX2_passGates_31 : decode cX2_passGates 31 = .ok (.iload_n 2, 1) := by decide +kernel
theorem dX2_passGates_32 : decode cX2_passGates 32 = .ok (.if_icmp .ne 30, 3) := by decide +kernel
theorem dX2_passGates_35 : decode cX2_passGates 35 = .ok (.aload_n 0, 1) := by decide +kernel
theorem dX2_passGates_36 : decode cX2_passGates 36 = .ok (.iload_n 3, 1) := by decide +kernel
theorem dX2_passGates_37 : decode cX2_passGates 37 = .ok (.iload_n 1, 1) := by decide +kernel
theorem dX2_passGates_38 : decode cX2_passGates 38 = .ok (.invokevirtual 142, 3) := by decide +kernel
theorem dX2_passGates_41 : decode cX2_passGates 41 = .ok (.ifCond .eq 21, 3) := by decide +kernel
theorem dX2_passGates_44 : decode cX2_passGates 44 = .ok (.iload_n 1, 1) := by decide +kernel
theorem dX2_passGates_45 : decode cX2_passGates 45 = .ok (.iconst 1, 1) := by decide +kernel
theorem dX2_passGates_46 : decode cX2_passGates 46 = .ok (.aload_n 0, 1) := by decide +kernel
theorem dX2_passGates_47 : decode cX2_passGates 47 = .ok (.getfield 21, 3) := by decide +kernel
theorem dX2_passGates_50 : decode cX2_passGates 50 = .ok (.iload_n 3, 1) := by decide +kernel
theorem dX2_passGates_51 : decode cX2_passGates 51 = .ok (.invokevirtual 146, 3) := by decide +kernel
theorem dX2_passGates_54 : decode cX2_passGates 54 = .ok (.ishl, 1) := by decide +kernel
theorem dX2_passGates_55 : decode cX2_passGates 55 = .ok (.ior, 1) := by decide +kernel
theorem dX2_passGates_56 : decode cX2_passGates 56 = .ok (.istore_n 1, 1) := by decide +kernel
theorem dX2_passGates_57 : decode cX2_passGates 57 = .ok (.aload_n 0, 1) := by decide +kernel
theorem dX2_passGates_58 : decode cX2_passGates 58 = .ok (.iload_n 3, 1) := by decide +kernel
theorem dX2_passGates_59 : decode cX2_passGates 59 = .ok (.invokevirtual 149, 3) := by decide +kernel
theorem dX2_passGates_62 : decode cX2_passGates 62 = .ok (.iinc 3 1, 3) := by decide +kernel
theorem dX2_passGates_65 : decode cX2_passGates 65 = .ok (.goto (-54), 3) := by decide +kernel
theorem dX2_passGates_68 : decode cX2_passGates 68 = .ok (.iinc 2 1, 3) := by decide +kernel
theorem dX2_passGates_71 : decode cX2_passGates 71 = .ok (.goto (-67), 3) := by decide +kernel
theorem dX2_passGates_74 : decode cX2_passGates 74 = .ok (.return_, 1) := by decide +kernel
theorem dX2_mayPass_0 : decode cX2_mayPass 0 = .ok (.aload_n 0, 1) := by decide +kernel
theorem dX2_mayPass_1 : decode cX2_mayPass 1 = .ok (.getfield 21, 3) := by decide +kernel
theorem dX2_mayPass_4 : decode cX2_mayPass 4 = .ok (.iload_n 1, 1) := by decide +kernel
theorem dX2_mayPass_5 : decode cX2_mayPass 5 = .ok (.invokevirtual 146, 3) := by decide +kernel
theorem dX2_mayPass_8 : decode cX2_mayPass 8 = .ok (.istore_n 3, 1) := by decide +kernel
theorem dX2_mayPass_9 : decode cX2_mayPass 9 = .ok (.aload_n 0, 1) := by decide +kernel
theorem dX2_mayPass_10 : decode cX2_mayPass 10 = .ok (.getfield 21, 3) := by decide +kernel
theorem dX2_mayPass_13 : decode cX2_mayPass 13 = .ok (.iload_n 1, 1) := by decide +kernel
theorem dX2_mayPass_14 : decode cX2_mayPass 14 = .ok (.invokevirtual 153, 3) := by decide +kernel
theorem dX2_mayPass_17 : decode cX2_mayPass 17 = .ok (.istore 4, 2) := by decide +kernel
theorem dX2_mayPass_19 : decode cX2_mayPass 19 = .ok (.iload_n 3, 1) := by decide +kernel
theorem dX2_mayPass_20 : decode cX2_mayPass 20 = .ok (.invokestatic 68, 3) := by decide +kernel
theorem dX2_mayPass_23 : decode cX2_mayPass 23 = .ok (.ifCond .eq 60, 3) := by decide +kernel
theorem dX2_mayPass_26 : decode cX2_mayPass 26 = .ok (.aload_n 0, 1) := by decide +kernel
theorem dX2_mayPass_27 : decode cX2_mayPass 27 = .ok (.getfield 12, 3) := by decide +kernel
theorem dX2_mayPass_30 : decode cX2_mayPass 30 = .ok (.getfield 72, 3) := by decide +kernel
theorem dX2_mayPass_33 : decode cX2_mayPass 33 = .ok (.iload_n 3, 1) := by decide +kernel
theorem dX2_mayPass_34 : decode cX2_mayPass 34 = .ok (.baload, 1) := by decide +kernel
theorem dX2_mayPass_35 : decode cX2_mayPass 35 = .ok (.ifCond .eq 48, 3) := by decide +kernel
theorem dX2_mayPass_38 : decode cX2_mayPass 38 = .ok (.iload_n 2, 1) := by decide +kernel
theorem dX2_mayPass_39 : decode cX2_mayPass 39 = .ok (.iconst 1, 1) := by decide +kernel
theorem dX2_mayPass_40 : decode cX2_mayPass 40 = .ok (.iload_n 3, 1) := by decide +kernel
theorem dX2_mayPass_41 : decode cX2_mayPass 41 = .ok (.ishl, 1) := by decide +kernel
theorem dX2_mayPass_42 : decode cX2_mayPass 42 = .ok (.iand, 1) := by decide +kernel
theorem dX2_mayPass_43 : decode cX2_mayPass 43 = .ok (.ifCond .ne 40, 3) := by decide +kernel
theorem dX2_mayPass_46 : decode cX2_mayPass 46 = .ok (.aload_n 0, 1) := by decide +kernel
theorem dX2_mayPass_47 : decode cX2_mayPass 47 = .ok (.getfield 21, 3) := by decide +kernel
theorem dX2_mayPass_50 : decode cX2_mayPass 50 = .ok (.iload 4, 2) := by decide +kernel
theorem dX2_mayPass_52 : decode cX2_mayPass 52 = .ok (.invokevirtual 156, 3) := by decide +kernel
theorem dX2_mayPass_55 : decode cX2_mayPass 55 = .ok (.ifCond .eq 28, 3) := by decide +kernel
theorem dX2_mayPass_58 : decode cX2_mayPass 58 = .ok (.aload_n 0, 1) := by decide +kernel
theorem dX2_mayPass_59 : decode cX2_mayPass 59 = .ok (.getfield 12, 3) := by decide +kernel
theorem dX2_mayPass_62 : decode cX2_mayPass 62 = .ok (.iload 4, 2) := by decide +kernel
theorem dX2_mayPass_64 : decode cX2_mayPass 64 = .ok (.aload_n 0, 1) := by decide +kernel
theorem dX2_mayPass_65 : decode cX2_mayPass 65 = .ok (.getfield 21, 3) := by decide +kernel
theorem dX2_mayPass_68 : decode cX2_mayPass 68 = .ok (.getfield 159, 3) := by decide +kernel
theorem dX2_mayPass_71 : decode cX2_mayPass 71 = .ok (.iload_n 1, 1) := by decide +kernel
theorem dX2_mayPass_72 : decode cX2_mayPass 72 = .ok (.iaload, 1) := by decide +kernel
theorem dX2_mayPass_73 : decode cX2_mayPass 73 = .ok (.invokevirtual 162, 3) := by decide +kernel
theorem dX2_mayPass_76 : decode cX2_mayPass 76 = .ok (.ifCond .eq 7, 3) := by decide +kernel
theorem dX2_mayPass_79 : decode cX2_mayPass 79 = .ok (.iconst 1, 1) := by decide +kernel
theorem dX2_mayPass_80 : decode cX2_mayPass 80 = .ok (.goto 4, 3) := by decide +kernel
theorem dX2_mayPass_83 : decode cX2_mayPass 83 = .ok (.iconst 0, 1) := by decide +kernel
theorem dX2_mayPass_84 : decode cX2_mayPass 84 = .ok (.ireturn, 1) := by decide +kernel
theorem dX2_pass_0 : decode cX2_pass 0 = .ok (.aload_n 0, 1) := by decide +kernel
theorem dX2_pass_1 : decode cX2_pass 1 = .ok (.getfield 21, 3) := by decide +kernel
theorem dX2_pass_4 : decode cX2_pass 4 = .ok (.iload_n 1, 1) := by decide +kernel
theorem dX2_pass_5 : decode cX2_pass 5 = .ok (.invokevirtual 146, 3) := by decide +kernel
theorem dX2_pass_8 : decode cX2_pass 8 = .ok (.istore_n 2, 1) := by decide +kernel
theorem dX2_pass_9 : decode cX2_pass 9 = .ok (.aload_n 0, 1) := by decide +kernel
theorem dX2_pass_10 : decode cX2_pass 10 = .ok (.getfield 21, 3) := by decide +kernel
theorem dX2_pass_13 : decode cX2_pass 13 = .ok (.getfield 165, 3) := by decide +kernel
theorem dX2_pass_16 : decode cX2_pass 16 = .ok (.iload_n 1, 1) := by decide +kernel
theorem dX2_pass_17 : decode cX2_pass 17 = .ok (.aload_n 0, 1) := by decide +kernel
theorem dX2_pass_18 : decode cX2_pass 18 = .ok (.getfield 21, 3) := by decide +kernel
theorem dX2_pass_21 : decode cX2_pass 21 = .ok (.iload_n 1, 1) := by decide +kernel
theorem dX2_pass_22 : decode cX2_pass 22 = .ok (.invokevirtual 153, 3) := by decide +kernel
theorem dX2_pass_25 : decode cX2_pass 25 = .ok (.iastore, 1) := by decide +kernel
theorem dX2_pass_26 : decode cX2_pass 26 = .ok (.aload_n 0, 1) := by decide +kernel
theorem dX2_pass_27 : decode cX2_pass 27 = .ok (.getfield 21, 3) := by decide +kernel
theorem dX2_pass_30 : decode cX2_pass 30 = .ok (.iload_n 1, 1) := by decide +kernel
theorem dX2_pass_31 : decode cX2_pass 31 = .ok (.invokevirtual 168, 3) := by decide +kernel
theorem dX2_pass_34 : decode cX2_pass 34 = .ok (.ifCond .eq 45, 3) := by decide +kernel
theorem dX2_pass_37 : decode cX2_pass 37 = .ok (.aload_n 0, 1) := by decide +kernel
theorem dX2_pass_38 : decode cX2_pass 38 = .ok (.getfield 21, 3) := by decide +kernel
theorem dX2_pass_41 : decode cX2_pass 41 = .ok (.getfield 171, 3) := by decide +kernel
theorem dX2_pass_44 : decode cX2_pass 44 = .ok (.aload_n 0, 1) := by decide +kernel
theorem dX2_pass_45 : decode cX2_pass 45 = .ok (.getfield 21, 3) := by decide +kernel
theorem dX2_pass_48 : decode cX2_pass 48 = .ok (.getfield 139, 3) := by decide +kernel
theorem dX2_pass_51 : decode cX2_pass 51 = .ok (.iload_n 1, 1) := by decide +kernel
theorem dX2_pass_52 : decode cX2_pass 52 = .ok (.iaload, 1) := by decide +kernel
theorem dX2_pass_53 : decode cX2_pass 53 = .ok (.dup2, 1) := by decide +kernel
theorem dX2_pass_54 : decode cX2_pass 54 = .ok (.iaload, 1) := by decide +kernel
theorem dX2_pass_55 : decode cX2_pass 55 = .ok (.iconst 1, 1) := by decide +kernel
theorem dX2_pass_56 : decode cX2_pass 56 = .ok (.iadd, 1) := by decide +kernel
theorem dX2_pass_57 : decode cX2_pass 57 = .ok (.iastore, 1) := by decide +kernel
theorem dX2_pass_58 : decode cX2_pass 58 = .ok (.aload_n 0, 1) := by decide +kernel
theorem dX2_pass_59 : decode cX2_pass 59 = .ok (.getfield 28, 3) := by decide +kernel
theorem dX2_pass_62 : decode cX2_pass 62 = .ok (.bipush 108, 2) := by decide +kernel
theorem dX2_pass_64 : decode cX2_pass 64 = .ok (.aload_n 0, 1) := by decide +kernel
theorem dX2_pass_65 : decode cX2_pass 65 = .ok (.getfield 21, 3) := by decide +kernel
theorem dX2_pass_68 : decode cX2_pass 68 = .ok (.getfield 159, 3) := by decide +kernel
theorem dX2_pass_71 : decode cX2_pass 71 = .ok (.iload_n 1, 1) := by decide +kernel
theorem dX2_pass_72 : decode cX2_pass 72 = .ok (.iaload, 1) := by decide +kernel
theorem dX2_pass_73 : decode cX2_pass 73 = .ok (.invokevirtual 132, 3) := by decide +kernel
theorem dX2_pass_76 : decode cX2_pass 76 = .ok (.goto 13, 3) := by decide +kernel
theorem dX2_pass_79 : decode cX2_pass 79 = .ok (.aload_n 0, 1) := by decide +kernel
theorem dX2_pass_80 : decode cX2_pass 80 = .ok (.getfield 28, 3) := by decide +kernel
theorem dX2_pass_83 : decode cX2_pass 83 = .ok (.bipush 112, 2) := by decide +kernel
theorem dX2_pass_85 : decode cX2_pass 85 = .ok (.iload_n 2, 1) := by decide +kernel
theorem dX2_pass_86 : decode cX2_pass 86 = .ok (.invokevirtual 132, 3) := by decide +kernel
theorem dX2_pass_89 : decode cX2_pass 89 = .ok (.return_, 1) := by decide +kernel
theorem dX3_init_0 : decode cX3_init 0 = .ok (.aload_n 0, 1) := by decide +kernel
theorem dX3_init_1 : decode cX3_init 1 = .ok (.invokespecial 3, 3) := by decide +kernel
theorem dX3_init_4 : decode cX3_init 4 = .ok (.aload_n 0, 1) := by decide +kernel
theorem dX3_init_5 : decode cX3_init 5 = .ok (.bipush 8, 2) := by decide +kernel
theorem dX3_init_7 : decode cX3_init 7 = .ok (.anewarray 9, 3) := by decide +kernel
theorem dX3_init_10 : decode cX3_init 10 = .ok (.putfield 11, 3) := by decide +kernel
theorem dX3_init_13 : decode cX3_init 13 = .ok (.aload_n 0, 1) := by decide +kernel
theorem dX3_init_14 : decode cX3_init 14 = .ok (.iconst 0, 1) := by decide +kernel
theorem dX3_init_15 : decode cX3_init 15 = .ok (.putfield 17, 3) := by decide +kernel
theorem dX3_init_18 : decode cX3_init 18 = .ok (.aload_n 0, 1) := by decide +kernel
theorem dX3_init_19 : decode cX3_init 19 = .ok (.iconst 0, 1) := by decide +kernel
theorem dX3_init_20 : decode cX3_init 20 = .ok (.putfield 21, 3) := by decide +kernel
theorem dX3_init_23 : decode cX3_init 23 = .ok (.iconst 0, 1) := by decide +kernel
theorem dX3_init_24 : decode cX3_init 24 = .ok (.istore_n 1, 1) := by decide +kernel
theorem dX3_init_25 : decode cX3_init 25 = .ok (.iload_n 1, 1) := by decide +kernel
theorem dX3_init_26 : decode cX3_init 26 = .ok (.bipush 8, 2) := by decide +kernel
theorem dX3_init_28 : decode cX3_init 28 = .ok (.if_icmp .ge 22, 3) := by decide +kernel
theorem dX3_init_31 : decode cX3_init 31 = .ok (.aload_n 0, 1) := by decide +kernel
theorem dX3_init_32 : decode cX3_init 32 = .ok (.getfield 11, 3) := by decide +kernel
theorem dX3_init_35 : decode cX3_init 35 = .ok (.iload_n 1, 1) := by decide +kernel
theorem dX3_init_36 : decode cX3_init 36 = .ok (.new 9, 3) := by decide +kernel
theorem dX3_init_39 : decode cX3_init 39 = .ok (.dup, 1) := by decide +kernel
theorem dX3_init_40 : decode cX3_init 40 = .ok (.invokespecial 24, 3) := by decide +kernel
theorem dX3_init_43 : decode cX3_init 43 = .ok (.aastore, 1) := by decide +kernel
theorem dX3_init_44 : decode cX3_init 44 = .ok (.iinc 1 1, 3) := by decide +kernel
theorem dX3_init_47 : decode cX3_init 47 = .ok (.goto (-22), 3) := by decide +kernel
theorem dX3_init_50 : decode cX3_init 50 = .ok (.return_, 1) := by decide +kernel
theorem dX3_push_0 : decode cX3_push 0 = .ok (.aload_n 0, 1) := by decide +kernel
theorem dX3_push_1 : decode cX3_push 1 = .ok (.getfield 11, 3) := by decide +kernel
theorem dX3_push_4 : decode cX3_push 4 = .ok (.aload_n 0, 1) := by decide +kernel
theorem dX3_push_5 : decode cX3_push 5 = .ok (.getfield 17, 3) := by decide +kernel
theorem dX3_push_8 : decode cX3_push 8 = .ok (.aaload, 1) := by decide +kernel
theorem dX3_push_9 : decode cX3_push 9 = .ok (.aload_n 1, 1) := by decide +kernel
theorem dX3_push_10 : decode cX3_push 10 = .ok (.invokevirtual 25, 3) := by decide +kernel
theorem dX3_push_13 : decode cX3_push 13 = .ok (.aload_n 0, 1) := by decide +kernel
theorem dX3_push_14 : decode cX3_push 14 = .ok (.aload_n 0, 1) := by decide +kernel
theorem dX3_push_15 : decode cX3_push 15 = .ok (.getfield 17, 3) := by decide +kernel
theorem dX3_push_18 : decode cX3_push 18 = .ok (.iconst 1, 1) := by decide +kernel
theorem dX3_push_19 : decode cX3_push 19 = .ok (.iadd, 1) := by decide +kernel
theorem dX3_push_20 : decode cX3_push 20 = .ok (.bipush 8, 2) := by decide +kernel
theorem dX3_push_22 : decode cX3_push 22 = .ok (.irem, 1) := by decide +kernel
theorem dX3_push_23 : decode cX3_push 23 = .ok (.putfield 17, 3) := by decide +kernel
theorem dX3_push_26 : decode cX3_push 26 = .ok (.aload_n 0, 1) := by decide +kernel
theorem dX3_push_27 : decode cX3_push 27 = .ok (.aload_n 0, 1) := by decide +kernel
theorem dX3_push_28 : decode cX3_push 28 = .ok (.getfield 21, 3) := by decide +kernel
theorem dX3_push_31 : decode cX3_push 31 = .ok (.iconst 1, 1) := by decide +kernel
theorem dX3_push_32 : decode cX3_push 32 = .ok (.iadd, 1) := by decide +kernel
theorem dX3_push_33 : decode cX3_push 33 = .ok (.bipush 8, 2) := by decide +kernel
theorem dX3_push_35 : decode cX3_push 35 = .ok (.invokestatic 29, 3) := by decide +kernel
theorem dX3_push_38 : decode cX3_push 38 = .ok (.putfield 21, 3) := by decide +kernel
theorem dX3_push_41 : decode cX3_push 41 = .ok (.return_, 1) := by decide +kernel
theorem dX4_init_0 : decode cX4_init 0 = .ok (.aload_n 0, 1) := by decide +kernel
theorem dX4_init_1 : decode cX4_init 1 = .ok (.invokespecial 3, 3) := by decide +kernel
theorem dX4_init_4 : decode cX4_init 4 = .ok (.aload_n 0, 1) := by decide +kernel
theorem dX4_init_5 : decode cX4_init 5 = .ok (.bipush 60, 2) := by decide +kernel
theorem dX4_init_7 : decode cX4_init 7 = .ok (.newarray .char, 2) := by decide +kernel
theorem dX4_init_9 : decode cX4_init 9 = .ok (.putfield 9, 3) := by decide +kernel
theorem dX4_init_12 : decode cX4_init 12 = .ok (.aload_n 0, 1) := by decide +kernel
theorem dX4_init_13 : decode cX4_init 13 = .ok (.iconst 0, 1) := by decide +kernel
theorem dX4_init_14 : decode cX4_init 14 = .ok (.putfield 15, 3) := by decide +kernel
theorem dX4_init_17 : decode cX4_init 17 = .ok (.aload_n 0, 1) := by decide +kernel
theorem dX4_init_18 : decode cX4_init 18 = .ok (.iconst 0, 1) := by decide +kernel
theorem dX4_init_19 : decode cX4_init 19 = .ok (.putfield 19, 3) := by decide +kernel
theorem dX4_init_22 : decode cX4_init 22 = .ok (.aload_n 0, 1) := by decide +kernel
theorem dX4_init_23 : decode cX4_init 23 = .ok (.iconst 0, 1) := by decide +kernel
theorem dX4_init_24 : decode cX4_init 24 = .ok (.putfield 22, 3) := by decide +kernel
theorem dX4_init_27 : decode cX4_init 27 = .ok (.aload_n 0, 1) := by decide +kernel
theorem dX4_init_28 : decode cX4_init 28 = .ok (.iconst 0, 1) := by decide +kernel
theorem dX4_init_29 : decode cX4_init 29 = .ok (.putfield 26, 3) := by decide +kernel
theorem dX4_init_32 : decode cX4_init 32 = .ok (.aload_n 0, 1) := by decide +kernel
theorem dX4_init_33 : decode cX4_init 33 = .ok (.bipush 60, 2) := by decide +kernel
theorem dX4_init_35 : decode cX4_init 35 = .ok (.newarray .int, 2) := by decide +kernel
theorem dX4_init_37 : decode cX4_init 37 = .ok (.putfield 29, 3) := by decide +kernel
theorem dX4_init_40 : decode cX4_init 40 = .ok (.aload_n 0, 1) := by decide +kernel
theorem dX4_init_41 : decode cX4_init 41 = .ok (.bipush 60, 2) := by decide +kernel
theorem dX4_init_43 : decode cX4_init 43 = .ok (.newarray .int, 2) := by decide +kernel
theorem dX4_init_45 : decode cX4_init 45 = .ok (.putfield 33, 3) := by decide +kernel
theorem dX4_init_48 : decode cX4_init 48 = .ok (.aload_n 0, 1) := by decide +kernel
theorem dX4_init_49 : decode cX4_init 49 = .ok (.bipush 60, 2) := by decide +kernel
theorem dX4_init_51 : decode cX4_init 51 = .ok (.newarray .int, 2) := by decide +kernel
theorem dX4_init_53 : decode cX4_init 53 = .ok (.putfield 36, 3) := by decide +kernel
theorem dX4_init_56 : decode cX4_init 56 = .ok (.aload_n 0, 1) := by decide +kernel
theorem dX4_init_57 : decode cX4_init 57 = .ok (.bipush 60, 2) := by decide +kernel
theorem dX4_init_59 : decode cX4_init 59 = .ok (.newarray .int, 2) := by decide +kernel
theorem dX4_init_61 : decode cX4_init 61 = .ok (.putfield 39, 3) := by decide +kernel
theorem dX4_init_64 : decode cX4_init 64 = .ok (.return_, 1) := by decide +kernel
theorem dX5_init_0 : decode cX5_init 0 = .ok (.aload_n 0, 1) := by decide +kernel
theorem dX5_init_1 : decode cX5_init 1 = .ok (.invokespecial 3, 3) := by decide +kernel
theorem dX5_init_4 : decode cX5_init 4 = .ok (.aload_n 0, 1) := by decide +kernel
theorem dX5_init_5 : decode cX5_init 5 = .ok (.iconst 5, 1) := by decide +kernel
theorem dX5_init_6 : decode cX5_init 6 = .ok (.newarray .int, 2) := by decide +kernel
theorem dX5_init_8 : decode cX5_init 8 = .ok (.putfield 9, 3) := by decide +kernel
theorem dX5_init_11 : decode cX5_init 11 = .ok (.aload_n 0, 1) := by decide +kernel
theorem dX5_init_12 : decode cX5_init 12 = .ok (.iconst 4, 1) := by decide +kernel
theorem dX5_init_13 : decode cX5_init 13 = .ok (.newarray .int, 2) := by decide +kernel
theorem dX5_init_15 : decode cX5_init 15 = .ok (.putfield 15, 3) := by decide +kernel
theorem dX5_init_18 : decode cX5_init 18 = .ok (.aload_n 0, 1) := by decide +kernel
theorem dX5_init_19 : decode cX5_init 19 = .ok (.iconst 4, 1) := by decide +kernel
theorem dX5_init_20 : decode cX5_init 20 = .ok (.newarray .boolean, 2) := by decide +kernel
theorem dX5_init_22 : decode cX5_init 22 = .ok (.putfield 18, 3) := by decide +kernel
theorem dX5_init_25 : decode cX5_init 25 = .ok (.aload_n 0, 1) := by decide +kernel
theorem dX5_init_26 : decode cX5_init 26 = .ok (.iconst 0, 1) := by decide +kernel
theorem dX5_init_27 : decode cX5_init 27 = .ok (.putfield 22, 3) := by decide +kernel
theorem dX5_init_30 : decode cX5_init 30 = .ok (.aload_n 0, 1) := by decide +kernel
theorem dX5_init_31 : decode cX5_init 31 = .ok (.iconst 0, 1) := by decide +kernel
theorem dX5_init_32 : decode cX5_init 32 = .ok (.putfield 26, 3) := by decide +kernel
theorem dX5_init_35 : decode cX5_init 35 = .ok (.aload_n 0, 1) := by decide +kernel
theorem dX5_init_36 : decode cX5_init 36 = .ok (.iconst 0, 1) := by decide +kernel
theorem dX5_init_37 : decode cX5_init 37 = .ok (.putfield 29, 3) := by decide +kernel
theorem dX5_init_40 : decode cX5_init 40 = .ok (.aload_n 0, 1) := by decide +kernel
theorem dX5_init_41 : decode cX5_init 41 = .ok (.iconst 0, 1) := by decide +kernel
theorem dX5_init_42 : decode cX5_init 42 = .ok (.putfield 32, 3) := by decide +kernel
theorem dX5_init_45 : decode cX5_init 45 = .ok (.aload_n 0, 1) := by decide +kernel
theorem dX5_init_46 : decode cX5_init 46 = .ok (.iconst 0, 1) := by decide +kernel
theorem dX5_init_47 : decode cX5_init 47 = .ok (.putfield 35, 3) := by decide +kernel
theorem dX5_init_50 : decode cX5_init 50 = .ok (.iconst 0, 1) := by decide +kernel
theorem dX5_init_51 : decode cX5_init 51 = .ok (.istore_n 1, 1) := by decide +kernel
theorem dX5_init_52 : decode cX5_init 52 = .ok (.iload_n 1, 1) := by decide +kernel
theorem dX5_init_53 : decode cX5_init 53 = .ok (.iconst 5, 1) := by decide +kernel
theorem dX5_init_54 : decode cX5_init 54 = .ok (.if_icmp .ge 20, 3) := by decide +kernel
theorem dX5_init_57 : decode cX5_init 57 = .ok (.aload_n 0, 1) := by decide +kernel
theorem dX5_init_58 : decode cX5_init 58 = .ok (.getfield 9, 3) := by decide +kernel
theorem dX5_init_61 : decode cX5_init 61 = .ok (.iload_n 1, 1) := by decide +kernel
theorem dX5_init_62 : decode cX5_init 62 = .ok (.getstatic 38, 3) := by decide +kernel
theorem dX5_init_65 : decode cX5_init 65 = .ok (.iload_n 1, 1) := by decide +kernel
theorem dX5_init_66 : decode cX5_init 66 = .ok (.iaload, 1) := by decide +kernel
theorem dX5_init_67 : decode cX5_init 67 = .ok (.iastore, 1) := by decide +kernel
theorem dX5_init_68 : decode cX5_init 68 = .ok (.iinc 1 1, 3) := by decide +kernel
theorem dX5_init_71 : decode cX5_init 71 = .ok (.goto (-19), 3) := by decide +kernel
theorem dX5_init_74 : decode cX5_init 74 = .ok (.return_, 1) := by decide +kernel
theorem dX5_copyWater_0 : decode cX5_copyWater 0 = .ok (.iconst 0, 1) := by decide +kernel
theorem dX5_copyWater_1 : decode cX5_copyWater 1 = .ok (.istore_n 2, 1) := by decide +kernel
theorem dX5_copyWater_2 : decode cX5_copyWater 2 = .ok (.iload_n 2, 1) := by decide +kernel
theorem dX5_copyWater_3 : decode cX5_copyWater 3 = .ok (.iconst 5, 1) := by decide +kernel
theorem dX5_copyWater_4 : decode cX5_copyWater 4 = .ok (.if_icmp .ge 21, 3) := by decide +kernel
theorem dX5_copyWater_7 : decode cX5_copyWater 7 = .ok (.aload_n 0, 1) := by decide +kernel
theorem dX5_copyWater_8 : decode cX5_copyWater 8 = .ok (.getfield 9, 3) := by decide +kernel
theorem dX5_copyWater_11 : decode cX5_copyWater 11 = .ok (.iload_n 2, 1) := by decide +kernel
theorem dX5_copyWater_12 : decode cX5_copyWater 12 = .ok (.aload_n 1, 1) := by decide +kernel
theorem dX5_copyWater_13 : decode cX5_copyWater 13 = .ok (.getfield 9, 3) := by decide +kernel
theorem dX5_copyWater_16 : decode cX5_copyWater 16 = .ok (.iload_n 2, 1) := by decide +kernel
theorem dX5_copyWater_17 : decode cX5_copyWater 17 = .ok (.iaload, 1) := by decide +kernel
theorem dX5_copyWater_18 : decode cX5_copyWater 18 = .ok (.iastore, 1) := by decide +kernel
theorem dX5_copyWater_19 : decode cX5_copyWater 19 = .ok (.iinc 2 1, 3) := by decide +kernel
theorem dX5_copyWater_22 : decode cX5_copyWater 22 = .ok (.goto (-20), 3) := by decide +kernel
theorem dX5_copyWater_25 : decode cX5_copyWater 25 = .ok (.iconst 0, 1) := by decide +kernel
theorem dX5_copyWater_26 : decode cX5_copyWater 26 = .ok (.istore_n 2, 1) := by decide +kernel
theorem dX5_copyWater_27 : decode cX5_copyWater 27 = .ok (.iload_n 2, 1) := by decide +kernel
theorem dX5_copyWater_28 : decode cX5_copyWater 28 = .ok (.iconst 4, 1) := by decide +kernel
theorem dX5_copyWater_29 : decode cX5_copyWater 29 = .ok (.if_icmp .ge 33, 3) := by decide +kernel
theorem dX5_copyWater_32 : decode cX5_copyWater 32 = .ok (.aload_n 0, 1) := by decide +kernel
theorem dX5_copyWater_33 : decode cX5_copyWater 33 = .ok (.getfield 15, 3) := by decide +kernel
theorem dX5_copyWater_36 : decode cX5_copyWater 36 = .ok (.iload_n 2, 1) := by decide +kernel
theorem dX5_copyWater_37 : decode cX5_copyWater 37 = .ok (.aload_n 1, 1) := by decide +kernel
theorem dX5_copyWater_38 : decode cX5_copyWater 38 = .ok (.getfield 15, 3) := by decide +kernel
theorem dX5_copyWater_41 : decode cX5_copyWater 41 = .ok (.iload_n 2, 1) := by decide +kernel
theorem dX5_copyWater_42 : decode cX5_copyWater 42 = .ok (.iaload, 1) := by decide +kernel
theorem dX5_copyWater_43 : decode cX5_copyWater 43 = .ok (.iastore, 1) := by decide +kernel
theorem dX5_copyWater_44 : decode cX5_copyWater 44 = .ok (.aload_n 0, 1) := by decide +kernel
theorem dX5_copyWater_45 : decode cX5_copyWater 45 = .ok (.getfield 18, 3) := by decide +kernel
theorem dX5_copyWater_48 : decode cX5_copyWater 48 = .ok (.iload_n 2, 1) := by decide +kernel
theorem dX5_copyWater_49 : decode cX5_copyWater 49 = .ok (.aload_n 1, 1) := by decide +kernel
theorem dX5_copyWater_50 : decode cX5_copyWater 50 = .ok (.getfield 18, 3) := by decide +kernel
theorem dX5_copyWater_53 : decode cX5_copyWater 53 = .ok (.iload_n 2, 1) := by decide +kernel
theorem dX5_copyWater_54 : decode cX5_copyWater 54 = .ok (.baload, 1) := by decide +kernel
theorem dX5_copyWater_55 : decode cX5_copyWater 55 = .ok (.bastore, 1) := by decide +kernel
theorem dX5_copyWater_56 : decode cX5_copyWater 56 = .ok (.iinc 2 1, 3) := by decide +kernel
theorem dX5_copyWater_59 : decode cX5_copyWater 59 = .ok (.goto (-32), 3) := by decide +kernel
theorem dX5_copyWater_62 : decode cX5_copyWater 62 = .ok (.aload_n 0, 1) := by decide +kernel
theorem dX5_copyWater_63 : decode cX5_copyWater 63 = .ok (.aload_n 1, 1) := by decide +kernel
theorem dX5_copyWater_64 : decode cX5_copyWater 64 = .ok (.getfield 22, 3) := by decide +kernel
theorem dX5_copyWater_67 : decode cX5_copyWater 67 = .ok (.putfield 22, 3) := by decide +kernel
theorem dX5_copyWater_70 : decode cX5_copyWater 70 = .ok (.aload_n 0, 1) := by decide +kernel
theorem dX5_copyWater_71 : decode cX5_copyWater 71 = .ok (.aload_n 1, 1) := by decide +kernel
theorem dX5_copyWater_72 : decode cX5_copyWater 72 = .ok (.getfield 26, 3) := by decide +kernel
theorem dX5_copyWater_75 : decode cX5_copyWater 75 = .ok (.putfield 26, 3) := by decide +kernel
theorem dX5_copyWater_78 : decode cX5_copyWater 78 = .ok (.aload_n 0, 1) := by decide +kernel
theorem dX5_copyWater_79 : decode cX5_copyWater 79 = .ok (.aload_n 1, 1) := by decide +kernel
theorem dX5_copyWater_80 : decode cX5_copyWater 80 = .ok (.getfield 29, 3) := by decide +kernel
theorem dX5_copyWater_83 : decode cX5_copyWater 83 = .ok (.putfield 29, 3) := by decide +kernel
theorem dX5_copyWater_86 : decode cX5_copyWater 86 = .ok (.aload_n 0, 1) := by decide +kernel
theorem dX5_copyWater_87 : decode cX5_copyWater 87 = .ok (.aload_n 1, 1) := by decide +kernel
theorem dX5_copyWater_88 : decode cX5_copyWater 88 = .ok (.getfield 32, 3) := by decide +kernel
theorem dX5_copyWater_91 : decode cX5_copyWater 91 = .ok (.putfield 32, 3) := by decide +kernel
theorem dX5_copyWater_94 : decode cX5_copyWater 94 = .ok (.aload_n 0, 1) := by decide +kernel
theorem dX5_copyWater_95 : decode cX5_copyWater 95 = .ok (.aload_n 1, 1) := by decide +kernel
theorem dX5_copyWater_96 : decode cX5_copyWater 96 = .ok (.getfield 35, 3) := by decide +kernel
theorem dX5_copyWater_99 : decode cX5_copyWater 99 = .ok (.putfield 35, 3) := by decide +kernel
theorem dX5_copyWater_102 : decode cX5_copyWater 102 = .ok (.return_, 1) := by decide +kernel
theorem dX5_roundedLevel_0 : decode cX5_roundedLevel 0 = .ok (.aload_n 0, 1) := by decide +kernel
theorem dX5_roundedLevel_1 : decode cX5_roundedLevel 1 = .ok (.getfield 9, 3) := by decide +kernel
theorem dX5_roundedLevel_4 : decode cX5_roundedLevel 4 = .ok (.iload_n 1, 1) := by decide +kernel
theorem dX5_roundedLevel_5 : decode cX5_roundedLevel 5 = .ok (.iaload, 1) := by decide +kernel
theorem dX5_roundedLevel_6 : decode cX5_roundedLevel 6 = .ok (.iload_n 1, 1) := by decide +kernel
theorem dX5_roundedLevel_7 : decode cX5_roundedLevel 7 = .ok (.invokestatic 41, 3) := by decide +kernel
theorem dX5_roundedLevel_10 : decode cX5_roundedLevel 10 = .ok (.idiv, 1) := by decide +kernel
theorem dX5_roundedLevel_11 : decode cX5_roundedLevel 11 = .ok (.ireturn, 1) := by decide +kernel
theorem dX5_difference_0 : decode cX5_difference 0 = .ok (.aload_n 0, 1) := by decide +kernel
theorem dX5_difference_1 : decode cX5_difference 1 = .ok (.getfield 9, 3) := by decide +kernel
theorem dX5_difference_4 : decode cX5_difference 4 = .ok (.iload_n 1, 1) := by decide +kernel
theorem dX5_difference_5 : decode cX5_difference 5 = .ok (.iaload, 1) := by decide +kernel
theorem dX5_difference_6 : decode cX5_difference 6 = .ok (.iload_n 2, 1) := by decide +kernel
theorem dX5_difference_7 : decode cX5_difference 7 = .ok (.invokestatic 41, 3) := by decide +kernel
theorem dX5_difference_10 : decode cX5_difference 10 = .ok (.imul, 1) := by decide +kernel
theorem dX5_difference_11 : decode cX5_difference 11 = .ok (.aload_n 0, 1) := by decide +kernel
theorem dX5_difference_12 : decode cX5_difference 12 = .ok (.getfield 9, 3) := by decide +kernel
theorem dX5_difference_15 : decode cX5_difference 15 = .ok (.iload_n 2, 1) := by decide +kernel
theorem dX5_difference_16 : decode cX5_difference 16 = .ok (.iaload, 1) := by decide +kernel
theorem dX5_difference_17 : decode cX5_difference 17 = .ok (.iload_n 1, 1) := by decide +kernel
theorem dX5_difference_18 : decode cX5_difference 18 = .ok (.invokestatic 41, 3) := by decide +kernel
theorem dX5_difference_21 : decode cX5_difference 21 = .ok (.imul, 1) := by decide +kernel
theorem dX5_difference_22 : decode cX5_difference 22 = .ok (.isub, 1) := by decide +kernel
theorem dX5_difference_23 : decode cX5_difference 23 = .ok (.ireturn, 1) := by decide +kernel
theorem dX5_reaches_0 : decode cX5_reaches 0 = .ok (.aload_n 0, 1) := by decide +kernel
theorem dX5_reaches_1 : decode cX5_reaches 1 = .ok (.getfield 9, 3) := by decide +kernel
theorem dX5_reaches_4 : decode cX5_reaches 4 = .ok (.iload_n 1, 1) := by decide +kernel
theorem dX5_reaches_5 : decode cX5_reaches 5 = .ok (.iaload, 1) := by decide +kernel
theorem dX5_reaches_6 : decode cX5_reaches 6 = .ok (.iload_n 2, 1) := by decide +kernel
theorem dX5_reaches_7 : decode cX5_reaches 7 = .ok (.iload_n 1, 1) := by decide +kernel
theorem dX5_reaches_8 : decode cX5_reaches 8 = .ok (.invokestatic 41, 3) := by decide +kernel
theorem dX5_reaches_11 : decode cX5_reaches 11 = .ok (.imul, 1) := by decide +kernel
theorem dX5_reaches_12 : decode cX5_reaches 12 = .ok (.if_icmp .lt 7, 3) := by decide +kernel
theorem dX5_reaches_15 : decode cX5_reaches 15 = .ok (.iconst 1, 1) := by decide +kernel
theorem dX5_reaches_16 : decode cX5_reaches 16 = .ok (.goto 4, 3) := by decide +kernel
theorem dX5_reaches_19 : decode cX5_reaches 19 = .ok (.iconst 0, 1) := by decide +kernel
theorem dX5_reaches_20 : decode cX5_reaches 20 = .ok (.ireturn, 1) := by decide +kernel
theorem dX5_amountByDivision_0 : decode cX5_amountByDivision 0 = .ok (.aload_n 0, 1) := by decide +kernel
theorem dX5_amountByDivision_1 : decode cX5_amountByDivision 1 = .ok (.iload_n 1, 1) := by decide +kernel
theorem dX5_amountByDivision_2 : decode cX5_amountByDivision 2 = .ok (.iload_n 1, 1) := by decide +kernel
theorem dX5_amountByDivision_3 : decode cX5_amountByDivision 3 = .ok (.iconst 1, 1) := by decide +kernel
theorem dX5_amountByDivision_4 : decode cX5_amountByDivision 4 = .ok (.iadd, 1) := by decide +kernel
theorem dX5_amountByDivision_5 : decode cX5_amountByDivision 5 = .ok (.invokevirtual 45, 3) := by decide +kernel
theorem dX5_amountByDivision_8 : decode cX5_amountByDivision 8 = .ok (.invokestatic 49, 3) := by decide +kernel
theorem dX5_amountByDivision_11 : decode cX5_amountByDivision 11 = .ok (.iload_n 1, 1) := by decide +kernel
theorem dX5_amountByDivision_12 : decode cX5_amountByDivision 12 = .ok (.invokestatic 41, 3) := by decide +kernel
theorem dX5_amountByDivision_15 : decode cX5_amountByDivision 15 = .ok (.iload_n 1, 1) := by decide +kernel
theorem dX5_amountByDivision_16 : decode cX5_amountByDivision 16 = .ok (.iconst 1, 1) := by decide +kernel
theorem dX5_amountByDivision_17 : decode cX5_amountByDivision 17 = .ok (.iadd, 1) := by decide +kernel
theorem dX5_amountByDivision_18 : decode cX5_amountByDivision 18 = .ok (.invokestatic 41, 3) := by decide +kernel
theorem dX5_amountByDivision_21 : decode cX5_amountByDivision 21 = .ok (.iadd, 1) := by decide +kernel
theorem dX5_amountByDivision_22 : decode cX5_amountByDivision 22 = .ok (.idiv, 1) := by decide +kernel
theorem dX5_amountByDivision_23 : decode cX5_amountByDivision 23 = .ok (.ireturn, 1) := by decide +kernel
theorem dX5_amountByLitres_0 : decode cX5_amountByLitres 0 = .ok (.aload_n 0, 1) := by decide +kernel
theorem dX5_amountByLitres_1 : decode cX5_amountByLitres 1 = .ok (.iload_n 1, 1) := by decide +kernel
theorem dX5_amountByLitres_2 : decode cX5_amountByLitres 2 = .ok (.iload_n 1, 1) := by decide +kernel
theorem dX5_amountByLitres_3 : decode cX5_amountByLitres 3 = .ok (.iconst 1, 1) := by decide +kernel
theorem dX5_amountByLitres_4 : decode cX5_amountByLitres 4 = .ok (.iadd, 1) := by decide +kernel
theorem dX5_amountByLitres_5 : decode cX5_amountByLitres 5 = .ok (.invokevirtual 45, 3) := by decide +kernel
theorem dX5_amountByLitres_8 : decode cX5_amountByLitres 8 = .ok (.ifCond .le 7, 3) := by decide +kernel
theorem dX5_amountByLitres_11 : decode cX5_amountByLitres 11 = .ok (.iconst 1, 1) := by decide +kernel
theorem dX5_amountByLitres_12 : decode cX5_amountByLitres 12 = .ok (.goto 4, 3) := by decide +kernel
theorem dX5_amountByLitres_15 : decode cX5_amountByLitres 15 = .ok (.iconst 0, 1) := by decide +kernel
theorem dX5_amountByLitres_16 : decode cX5_amountByLitres 16 = .ok (.istore_n 2, 1) := by decide +kernel
theorem dX5_amountByLitres_17 : decode cX5_amountByLitres 17 = .ok (.iload_n 2, 1) := by decide +kernel
theorem dX5_amountByLitres_18 : decode cX5_amountByLitres 18 = .ok (.ifCond .eq 7, 3) := by decide +kernel
theorem dX5_amountByLitres_21 : decode cX5_amountByLitres 21 = .ok (.iload_n 1, 1) := by decide +kernel
theorem dX5_amountByLitres_22 : decode cX5_amountByLitres 22 = .ok (.goto 6, 3) := by decide +kernel
theorem dX5_amountByLitres_25 : decode cX5_amountByLitres 25 = .ok (.iload_n 1, 1) := by decide +kernel
theorem dX5_amountByLitres_26 : decode cX5_amountByLitres 26 = .ok (.iconst 1, 1) := by decide +kernel
theorem dX5_amountByLitres_27 : decode cX5_amountByLitres 27 = .ok (.iadd, 1) := by decide +kernel
theorem dX5_amountByLitres_28 : decode cX5_amountByLitres 28 = .ok (.istore_n 3, 1) := by decide +kernel
theorem dX5_amountByLitres_29 : decode cX5_amountByLitres 29 = .ok (.iload_n 2, 1) := by decide +kernel
theorem dX5_amountByLitres_30 : decode cX5_amountByLitres 30 = .ok (.ifCond .eq 9, 3) := by decide +kernel
theorem dX5_amountByLitres_33 : decode cX5_amountByLitres 33 = .ok (.iload_n 1, 1) := by decide +kernel
theorem dX5_amountByLitres_34 : decode cX5_amountByLitres 34 = .ok (.iconst 1, 1) := by decide +kernel
theorem dX5_amountByLitres_35 : decode cX5_amountByLitres 35 = .ok (.iadd, 1) := by decide +kernel
theorem dX5_amountByLitres_36 : decode cX5_amountByLitres 36 = .ok (.goto 4, 3) := by decide +kernel
theorem dX5_amountByLitres_39 : decode cX5_amountByLitres 39 = .ok (.iload_n 1, 1) := by decide +kernel
theorem dX5_amountByLitres_40 : decode cX5_amountByLitres 40 = .ok (.istore 4, 2) := by decide +kernel
theorem dX5_amountByLitres_42 : decode cX5_amountByLitres 42 = .ok (.iconst 0, 1) := by decide +kernel
theorem dX5_amountByLitres_43 : decode cX5_amountByLitres 43 = .ok (.istore 5, 2) := by decide +kernel
theorem dX5_amountByLitres_45 : decode cX5_amountByLitres 45 = .ok (.iload 5, 2) := by decide +kernel
theorem dX5_amountByLitres_47 : decode cX5_amountByLitres 47 = .ok (.aload_n 0, 1) := by decide +kernel
theorem dX5_amountByLitres_48 : decode cX5_amountByLitres 48 = .ok (.getfield 9, 3) := by decide +kernel
theorem dX5_amountByLitres_51 : decode cX5_amountByLitres 51 = .ok (.iload_n 3, 1) := by decide +kernel
theorem dX5_amountByLitres_52 : decode cX5_amountByLitres 52 = .ok (.iaload, 1) := by decide +kernel
theorem dX5_amountByLitres_53 : decode cX5_amountByLitres 53 = .ok (.if_icmp .ge 23, 3) := by decide +kernel
theorem dX5_amountByLitres_56 : decode cX5_amountByLitres 56 = .ok (.aload_n 0, 1) := by decide +kernel
theorem dX5_amountByLitres_57 : decode cX5_amountByLitres 57 = .ok (.iload_n 3, 1) := by decide +kernel
theorem dX5_amountByLitres_58 : decode cX5_amountByLitres 58 = .ok (.iload 4, 2) := by decide +kernel
theorem dX5_amountByLitres_60 : decode cX5_amountByLitres 60 = .ok (.iload 5, 2) := by decide +kernel
theorem dX5_amountByLitres_62 : decode cX5_amountByLitres 62 = .ok (.iconst 1, 1) := by decide +kernel
theorem dX5_amountByLitres_63 : decode cX5_amountByLitres 63 = .ok (.iadd, 1) := by decide +kernel
theorem dX5_amountByLitres_64 : decode cX5_amountByLitres 64 = .ok (.invokevirtual 54, 3) := by decide +kernel
theorem dX5_amountByLitres_67 : decode cX5_amountByLitres 67 = .ok (.ifCond .eq 9, 3) := by decide +kernel
theorem dX5_amountByLitres_70 : decode cX5_amountByLitres 70 = .ok (.iinc 5 1, 3) := by decide +kernel
theorem dX5_amountByLitres_73 : decode cX5_amountByLitres 73 = .ok (.goto (-28), 3) := by decide +kernel
theorem dX5_amountByLitres_76 : decode cX5_amountByLitres 76 = .ok (.iload 5, 2) := by decide +kernel
theorem dX5_amountByLitres_78 : decode cX5_amountByLitres 78 = .ok (.ireturn, 1) := by decide +kernel
theorem dX5_staysBelow_0 : decode cX5_staysBelow 0 = .ok (.aload_n 0, 1) := by decide +kernel
theorem dX5_staysBelow_1 : decode cX5_staysBelow 1 = .ok (.getfield 9, 3) := by decide +kernel
theorem dX5_staysBelow_4 : decode cX5_staysBelow 4 = .ok (.iload_n 2, 1) := by decide +kernel
theorem dX5_staysBelow_5 : decode cX5_staysBelow 5 = .ok (.iaload, 1) := by decide +kernel
theorem dX5_staysBelow_6 : decode cX5_staysBelow 6 = .ok (.iload_n 3, 1) := by decide +kernel
theorem dX5_staysBelow_7 : decode cX5_staysBelow 7 = .ok (.iadd, 1) := by decide +kernel
theorem dX5_staysBelow_8 : decode cX5_staysBelow 8 = .ok (.iload_n 1, 1) := by decide +kernel
theorem dX5_staysBelow_9 : decode cX5_staysBelow 9 = .ok (.invokestatic 41, 3) := by decide +kernel
theorem dX5_staysBelow_12 : decode cX5_staysBelow 12 = .ok (.imul, 1) := by decide +kernel
theorem dX5_staysBelow_13 : decode cX5_staysBelow 13 = .ok (.aload_n 0, 1) := by decide +kernel
theorem dX5_staysBelow_14 : decode cX5_staysBelow 14 = .ok (.getfield 9, 3) := by decide +kernel
theorem dX5_staysBelow_17 : decode cX5_staysBelow 17 = .ok (.iload_n 1, 1) := by decide +kernel
theorem dX5_staysBelow_18 : decode cX5_staysBelow 18 = .ok (.iaload, 1) := by decide +kernel
theorem dX5_staysBelow_19 : decode cX5_staysBelow 19 = .ok (.iload_n 3, 1) := by decide +kernel
theorem dX5_staysBelow_20 : decode cX5_staysBelow 20 = .ok (.isub, 1) := by decide +kernel
theorem dX5_staysBelow_21 : decode cX5_staysBelow 21 = .ok (.iload_n 2, 1) := by decide +kernel
theorem dX5_staysBelow_22 : decode cX5_staysBelow 22 = .ok (.invokestatic 41, 3) := by decide +kernel
theorem dX5_staysBelow_25 : decode cX5_staysBelow 25 = .ok (.imul, 1) := by decide +kernel
theorem dX5_staysBelow_26 : decode cX5_staysBelow 26 = .ok (.if_icmp .gt 7, 3) := by decide +kernel
theorem dX5_staysBelow_29 : decode cX5_staysBelow 29 = .ok (.iconst 1, 1) := by decide +kernel
theorem dX5_staysBelow_30 : decode cX5_staysBelow 30 = .ok (.goto 4, 3) := by decide +kernel
theorem dX5_staysBelow_33 : decode cX5_staysBelow 33 = .ok (.iconst 0, 1) := by decide +kernel
theorem dX5_staysBelow_34 : decode cX5_staysBelow 34 = .ok (.ireturn, 1) := by decide +kernel
theorem dX5_flowDown_0 : decode cX5_flowDown 0 = .ok (.aload_n 0, 1) := by decide +kernel
theorem dX5_flowDown_1 : decode cX5_flowDown 1 = .ok (.iload_n 1, 1) := by decide +kernel
theorem dX5_flowDown_2 : decode cX5_flowDown 2 = .ok (.invokevirtual 58, 3) := by decide +kernel
theorem dX5_flowDown_5 : decode cX5_flowDown 5 = .ok (.istore_n 2, 1) := by decide +kernel
theorem dX5_flowDown_6 : decode cX5_flowDown 6 = .ok (.aload_n 0, 1) := by decide +kernel
theorem dX5_flowDown_7 : decode cX5_flowDown 7 = .ok (.getfield 18, 3) := by decide +kernel
theorem dX5_flowDown_10 : decode cX5_flowDown 10 = .ok (.iload_n 1, 1) := by decide +kernel
theorem dX5_flowDown_11 : decode cX5_flowDown 11 = .ok (.baload, 1) := by decide +kernel
theorem dX5_flowDown_12 : decode cX5_flowDown 12 = .ok (.ifCond .ne 16, 3) := by decide +kernel
theorem dX5_flowDown_15 : decode cX5_flowDown 15 = .ok (.iload_n 2, 1) := by decide +kernel
theorem dX5_flowDown_16 : decode cX5_flowDown 16 = .ok (.iconst 5, 1) := by decide +kernel
theorem dX5_flowDown_17 : decode cX5_flowDown 17 = .ok (.aload_n 0, 1) := by decide +kernel
theorem dX5_flowDown_18 : decode cX5_flowDown 18 = .ok (.getfield 15, 3) := by decide +kernel
theorem dX5_flowDown_21 : decode cX5_flowDown 21 = .ok (.iload_n 1, 1) := by decide +kernel
theorem dX5_flowDown_22 : decode cX5_flowDown 22 = .ok (.iaload, 1) := by decide +kernel
theorem dX5_flowDown_23 : decode cX5_flowDown 23 = .ok (.imul, 1) := by decide +kernel
theorem dX5_flowDown_24 : decode cX5_flowDown 24 = .ok (.invokestatic 61, 3) := by decide +kernel
theorem dX5_flowDown_27 : decode cX5_flowDown 27 = .ok (.istore_n 2, 1) := by decide +kernel
theorem dX5_flowDown_28 : decode cX5_flowDown 28 = .ok (.aload_n 0, 1) := by decide +kernel
theorem dX5_flowDown_29 : decode cX5_flowDown 29 = .ok (.iload_n 1, 1) := by decide +kernel
theorem dX5_flowDown_30 : decode cX5_flowDown 30 = .ok (.iload_n 1, 1) := by decide +kernel
theorem dX5_flowDown_31 : decode cX5_flowDown 31 = .ok (.iconst 1, 1) := by decide +kernel
theorem dX5_flowDown_32 : decode cX5_flowDown 32 = .ok (.iadd, 1) := by decide +kernel
theorem dX5_flowDown_33 : decode cX5_flowDown 33 = .ok (.invokevirtual 45, 3) := by decide +kernel
theorem dX5_flowDown_36 : decode cX5_flowDown 36 = .ok (.ifCond .le 7, 3) := by decide +kernel
theorem dX5_flowDown_39 : decode cX5_flowDown 39 = .ok (.iload_n 2, 1) := by decide +kernel
theorem dX5_flowDown_40 : decode cX5_flowDown 40 = .ok (.goto 5, 3) := by decide +kernel
theorem dX5_flowDown_43 : decode cX5_flowDown 43 = .ok (.iload_n 2, 1) := by decide +kernel
theorem dX5_flowDown_44 : decode cX5_flowDown 44 = .ok (.ineg, 1) := by decide +kernel
theorem dX5_flowDown_45 : decode cX5_flowDown 45 = .ok (.ireturn, 1) := by decide +kernel
theorem dX5_moveDown_0 : decode cX5_moveDown 0 = .ok (.aload_n 0, 1) := by decide +kernel
theorem dX5_moveDown_1 : decode cX5_moveDown 1 = .ok (.getfield 9, 3) := by decide +kernel
theorem dX5_moveDown_4 : decode cX5_moveDown 4 = .ok (.iload_n 1, 1) := by decide +kernel
theorem dX5_moveDown_5 : decode cX5_moveDown 5 = .ok (.dup2, 1) := by decide +kernel
theorem dX5_moveDown_6 : decode cX5_moveDown 6 = .ok (.iaload, 1) := by decide +kernel
theorem dX5_moveDown_7 : decode cX5_moveDown 7 = .ok (.iload_n 2, 1) := by decide +kernel
theorem dX5_moveDown_8 : decode cX5_moveDown 8 = .ok (.isub, 1) := by decide +kernel
theorem dX5_moveDown_9 : decode cX5_moveDown 9 = .ok (.iastore, 1) := by decide +kernel
theorem dX5_moveDown_10 : decode cX5_moveDown 10 = .ok (.aload_n 0, 1) := by decide +kernel
theorem dX5_moveDown_11 : decode cX5_moveDown 11 = .ok (.getfield 9, 3) := by decide +kernel
theorem dX5_moveDown_14 : decode cX5_moveDown 14 = .ok (.iload_n 1, 1) := by decide +kernel
theorem dX5_moveDown_15 : decode cX5_moveDown 15 = .ok (.iconst 1, 1) := by decide +kernel
theorem dX5_moveDown_16 : decode cX5_moveDown 16 = .ok (.iadd, 1) := by decide +kernel
theorem dX5_moveDown_17 : decode cX5_moveDown 17 = .ok (.dup2, 1) := by decide +kernel
theorem dX5_moveDown_18 : decode cX5_moveDown 18 = .ok (.iaload, 1) := by decide +kernel
theorem dX5_moveDown_19 : decode cX5_moveDown 19 = .ok (.iload_n 2, 1) := by decide +kernel
theorem dX5_moveDown_20 : decode cX5_moveDown 20 = .ok (.iadd, 1) := by decide +kernel
theorem dX5_moveDown_21 : decode cX5_moveDown 21 = .ok (.iastore, 1) := by decide +kernel
theorem dX5_moveDown_22 : decode cX5_moveDown 22 = .ok (.return_, 1) := by decide +kernel
theorem dX5_letRain_0 : decode cX5_letRain 0 = .ok (.sipush 400, 3) := by decide +kernel
theorem dX5_letRain_3 : decode cX5_letRain 3 = .ok (.aload_n 0, 1) := by decide +kernel
theorem dX5_letRain_4 : decode cX5_letRain 4 = .ok (.getfield 9, 3) := by decide +kernel
theorem dX5_letRain_7 : decode cX5_letRain 7 = .ok (.iconst 0, 1) := by decide +kernel
theorem dX5_letRain_8 : decode cX5_letRain 8 = .ok (.iaload, 1) := by decide +kernel
theorem dX5_letRain_9 : decode cX5_letRain 9 = .ok (.isub, 1) := by decide +kernel
theorem dX5_letRain_10 : decode cX5_letRain 10 = .ok (.istore_n 1, 1) := by decide +kernel
theorem dX5_letRain_11 : decode cX5_letRain 11 = .ok (.aload_n 0, 1) := by decide +kernel
theorem dX5_letRain_12 : decode cX5_letRain 12 = .ok (.getfield 22, 3) := by decide +kernel
theorem dX5_letRain_15 : decode cX5_letRain 15 = .ok (.iload_n 1, 1) := by decide +kernel
theorem dX5_letRain_16 : decode cX5_letRain 16 = .ok (.invokestatic 61, 3) := by decide +kernel
theorem dX5_letRain_19 : decode cX5_letRain 19 = .ok (.istore_n 2, 1) := by decide +kernel
theorem dX5_letRain_20 : decode cX5_letRain 20 = .ok (.aload_n 0, 1) := by decide +kernel
theorem dX5_letRain_21 : decode cX5_letRain 21 = .ok (.getfield 9, 3) := by decide +kernel
theorem dX5_letRain_24 : decode cX5_letRain 24 = .ok (.iconst 0, 1) := by decide +kernel
theorem dX5_letRain_25 : decode cX5_letRain 25 = .ok (.dup2, 1) := by decide +kernel
theorem dX5_letRain_26 : decode cX5_letRain 26 = .ok (.iaload, 1) := by decide +kernel
theorem dX5_letRain_27 : decode cX5_letRain 27 = .ok (.iload_n 2, 1) := by decide +kernel
theorem dX5_letRain_28 : decode cX5_letRain 28 = .ok (.iadd, 1) := by decide +kernel
theorem dX5_letRain_29 : decode cX5_letRain 29 = .ok (.iastore, 1) := by decide +kernel
theorem dX5_letRain_30 : decode cX5_letRain 30 = .ok (.aload_n 0, 1) := by decide +kernel
theorem dX5_letRain_31 : decode cX5_letRain 31 = .ok (.dup, 1) := by decide +kernel
theorem dX5_letRain_32 : decode cX5_letRain 32 = .ok (.getfield 29, 3) := by decide +kernel
theorem dX5_letRain_35 : decode cX5_letRain 35 = .ok (.aload_n 0, 1) := by decide +kernel
theorem dX5_letRain_36 : decode cX5_letRain 36 = .ok (.getfield 22, 3) := by decide +kernel
theorem dX5_letRain_39 : decode cX5_letRain 39 = .ok (.iadd, 1) := by decide +kernel
theorem dX5_letRain_40 : decode cX5_letRain 40 = .ok (.putfield 29, 3) := by decide +kernel
theorem dX5_letRain_43 : decode cX5_letRain 43 = .ok (.aload_n 0, 1) := by decide +kernel
theorem dX5_letRain_44 : decode cX5_letRain 44 = .ok (.dup, 1) := by decide +kernel
theorem dX5_letRain_45 : decode cX5_letRain 45 = .ok (.getfield 35, 3) := by decide +kernel
theorem dX5_letRain_48 : decode cX5_letRain 48 = .ok (.aload_n 0, 1) := by decide +kernel
theorem dX5_letRain_49 : decode cX5_letRain 49 = .ok (.getfield 22, 3) := by decide +kernel
theorem dX5_letRain_52 : decode cX5_letRain 52 = .ok (.iload_n 2, 1) := by decide +kernel
theorem dX5_letRain_53 : decode cX5_letRain 53 = .ok (.isub, 1) := by decide +kernel
theorem dX5_letRain_54 : decode cX5_letRain 54 = .ok (.iadd, 1) := by decide +kernel
theorem dX5_letRain_55 : decode cX5_letRain 55 = .ok (.putfield 35, 3) := by decide +kernel
theorem dX5_letRain_58 : decode cX5_letRain 58 = .ok (.aload_n 0, 1) := by decide +kernel
theorem dX5_letRain_59 : decode cX5_letRain 59 = .ok (.getfield 22, 3) := by decide +kernel
theorem dX5_letRain_62 : decode cX5_letRain 62 = .ok (.iload_n 2, 1) := by decide +kernel
theorem dX5_letRain_63 : decode cX5_letRain 63 = .ok (.isub, 1) := by decide +kernel
theorem dX5_letRain_64 : decode cX5_letRain 64 = .ok (.ireturn, 1) := by decide +kernel
theorem dX5_letDrain_0 : decode cX5_letDrain 0 = .ok (.aload_n 0, 1) := by decide +kernel
theorem dX5_letDrain_1 : decode cX5_letDrain 1 = .ok (.getfield 26, 3) := by decide +kernel
theorem dX5_letDrain_4 : decode cX5_letDrain 4 = .ok (.aload_n 0, 1) := by decide +kernel
theorem dX5_letDrain_5 : decode cX5_letDrain 5 = .ok (.getfield 9, 3) := by decide +kernel
theorem dX5_letDrain_8 : decode cX5_letDrain 8 = .ok (.iconst 4, 1) := by decide +kernel
theorem dX5_letDrain_9 : decode cX5_letDrain 9 = .ok (.iaload, 1) := by decide +kernel
theorem dX5_letDrain_10 : decode cX5_letDrain 10 = .ok (.invokestatic 61, 3) := by decide +kernel
theorem dX5_letDrain_13 : decode cX5_letDrain 13 = .ok (.istore_n 1, 1) := by decide +kernel
theorem dX5_letDrain_14 : decode cX5_letDrain 14 = .ok (.aload_n 0, 1) := by decide +kernel
theorem dX5_letDrain_15 : decode cX5_letDrain 15 = .ok (.getfield 9, 3) := by decide +kernel
theorem dX5_letDrain_18 : decode cX5_letDrain 18 = .ok (.iconst 4, 1) := by decide +kernel
theorem dX5_letDrain_19 : decode cX5_letDrain 19 = .ok (.dup2, 1) := by decide +kernel
theorem dX5_letDrain_20 : decode cX5_letDrain 20 = .ok (.iaload, 1) := by decide +kernel
theorem dX5_letDrain_21 : decode cX5_letDrain 21 = .ok (.iload_n 1, 1) := by decide +kernel
theorem dX5_letDrain_22 : decode cX5_letDrain 22 = .ok (.isub, 1) := by decide +kernel
theorem dX5_letDrain_23 : decode cX5_letDrain 23 = .ok (.iastore, 1) := by decide +kernel
theorem dX5_letDrain_24 : decode cX5_letDrain 24 = .ok (.aload_n 0, 1) := by decide +kernel
theorem dX5_letDrain_25 : decode cX5_letDrain 25 = .ok (.dup, 1) := by decide +kernel
theorem dX5_letDrain_26 : decode cX5_letDrain 26 = .ok (.getfield 32, 3) := by decide +kernel
theorem dX5_letDrain_29 : decode cX5_letDrain 29 = .ok (.iload_n 1, 1) := by decide +kernel
theorem dX5_letDrain_30 : decode cX5_letDrain 30 = .ok (.iadd, 1) := by decide +kernel
theorem dX5_letDrain_31 : decode cX5_letDrain 31 = .ok (.putfield 32, 3) := by decide +kernel
theorem dX5_letDrain_34 : decode cX5_letDrain 34 = .ok (.return_, 1) := by decide +kernel
theorem dX5_sumOfVolumes_0 : decode cX5_sumOfVolumes 0 = .ok (.iconst 0, 1) := by decide +kernel
theorem dX5_sumOfVolumes_1 : decode cX5_sumOfVolumes 1 = .ok (.istore_n 1, 1) := by decide +kernel
theorem dX5_sumOfVolumes_2 : decode cX5_sumOfVolumes 2 = .ok (.iconst 0, 1) := by decide +kernel
theorem dX5_sumOfVolumes_3 : decode cX5_sumOfVolumes 3 = .ok (.istore_n 2, 1) := by decide +kernel
theorem dX5_sumOfVolumes_4 : decode cX5_sumOfVolumes 4 = .ok (.iload_n 2, 1) := by decide +kernel
theorem dX5_sumOfVolumes_5 : decode cX5_sumOfVolumes 5 = .ok (.iconst 5, 1) := by decide +kernel
theorem dX5_sumOfVolumes_6 : decode cX5_sumOfVolumes 6 = .ok (.if_icmp .ge 18, 3) := by decide +kernel
theorem dX5_sumOfVolumes_9 : decode cX5_sumOfVolumes 9 = .ok (.iload_n 1, 1) := by decide +kernel
theorem dX5_sumOfVolumes_10 : decode cX5_sumOfVolumes 10 = .ok (.aload_n 0, 1) := by decide +kernel
theorem dX5_sumOfVolumes_11 : decode cX5_sumOfVolumes 11 = .ok (.getfield 9, 3) := by decide +kernel
theorem dX5_sumOfVolumes_14 : decode cX5_sumOfVolumes 14 = .ok (.iload_n 2, 1) := by decide +kernel
theorem dX5_sumOfVolumes_15 : decode cX5_sumOfVolumes 15 = .ok (.iaload, 1) := by decide +kernel
theorem dX5_sumOfVolumes_16 : decode cX5_sumOfVolumes 16 = .ok (.iadd, 1) := by decide +kernel
theorem dX5_sumOfVolumes_17 : decode cX5_sumOfVolumes 17 = .ok (.istore_n 1, 1) := by decide +kernel
theorem dX5_sumOfVolumes_18 : decode cX5_sumOfVolumes 18 = .ok (.iinc 2 1, 3) := by decide +kernel
theorem dX5_sumOfVolumes_21 : decode cX5_sumOfVolumes 21 = .ok (.goto (-17), 3) := by decide +kernel
theorem dX5_sumOfVolumes_24 : decode cX5_sumOfVolumes 24 = .ok (.iload_n 1, 1) := by decide +kernel
theorem dX5_sumOfVolumes_25 : decode cX5_sumOfVolumes 25 = .ok (.ireturn, 1) := by decide +kernel
theorem dX5_sumByAccounts_0 : decode cX5_sumByAccounts 0 = .ok (.aload_n 0, 1) := by decide +kernel
theorem dX5_sumByAccounts_1 : decode cX5_sumByAccounts 1 = .ok (.getfield 29, 3) := by decide +kernel
theorem dX5_sumByAccounts_4 : decode cX5_sumByAccounts 4 = .ok (.aload_n 0, 1) := by decide +kernel
theorem dX5_sumByAccounts_5 : decode cX5_sumByAccounts 5 = .ok (.getfield 32, 3) := by decide +kernel
theorem dX5_sumByAccounts_8 : decode cX5_sumByAccounts 8 = .ok (.isub, 1) := by decide +kernel
theorem dX5_sumByAccounts_9 : decode cX5_sumByAccounts 9 = .ok (.aload_n 0, 1) := by decide +kernel
theorem dX5_sumByAccounts_10 : decode cX5_sumByAccounts 10 = .ok (.getfield 35, 3) := by decide +kernel
theorem dX5_sumByAccounts_13 : decode cX5_sumByAccounts 13 = .ok (.isub, 1) := by decide +kernel
theorem dX5_sumByAccounts_14 : decode cX5_sumByAccounts 14 = .ok (.istore_n 1, 1) := by decide +kernel
theorem dX5_sumByAccounts_15 : decode cX5_sumByAccounts 15 = .ok (.iconst 0, 1) := by decide +kernel
theorem dX5_sumByAccounts_16 : decode cX5_sumByAccounts 16 = .ok (.istore_n 2, 1) := by decide +kernel
theorem dX5_sumByAccounts_17 : decode cX5_sumByAccounts 17 = .ok (.iload_n 2, 1) := by decide +kernel
theorem dX5_sumByAccounts_18 : decode cX5_sumByAccounts 18 = .ok (.iconst 5, 1) := by decide +kernel
theorem dX5_sumByAccounts_19 : decode cX5_sumByAccounts 19 = .ok (.if_icmp .ge 17, 3) := by decide +kernel
theorem dX5_sumByAccounts_22 : decode cX5_sumByAccounts 22 = .ok (.iload_n 1, 1) := by decide +kernel
theorem dX5_sumByAccounts_23 : decode cX5_sumByAccounts 23 = .ok (.getstatic 38, 3) := by decide +kernel
theorem dX5_sumByAccounts_26 : decode cX5_sumByAccounts 26 = .ok (.iload_n 2, 1) := by decide +kernel
theorem dX5_sumByAccounts_27 : decode cX5_sumByAccounts 27 = .ok (.iaload, 1) := by decide +kernel
theorem dX5_sumByAccounts_28 : decode cX5_sumByAccounts 28 = .ok (.iadd, 1) := by decide +kernel
theorem dX5_sumByAccounts_29 : decode cX5_sumByAccounts 29 = .ok (.istore_n 1, 1) := by decide +kernel
theorem dX5_sumByAccounts_30 : decode cX5_sumByAccounts 30 = .ok (.iinc 2 1, 3) := by decide +kernel
theorem dX5_sumByAccounts_33 : decode cX5_sumByAccounts 33 = .ok (.goto (-16), 3) := by decide +kernel
theorem dX5_sumByAccounts_36 : decode cX5_sumByAccounts 36 = .ok (.iload_n 1, 1) := by decide +kernel
theorem dX5_sumByAccounts_37 : decode cX5_sumByAccounts 37 = .ok (.ireturn, 1) := by decide +kernel
theorem dX5_openGateCount_0 : decode cX5_openGateCount 0 = .ok (.iconst 0, 1) := by decide +kernel
theorem dX5_openGateCount_1 : decode cX5_openGateCount 1 = .ok (.istore_n 1, 1) := by decide +kernel
theorem dX5_openGateCount_2 : decode cX5_openGateCount 2 = .ok (.iconst 0, 1) := by decide +kernel
theorem dX5_openGateCount_3 : decode cX5_openGateCount 3 = .ok (.istore_n 2, 1) := by decide +kernel
theorem dX5_openGateCount_4 : decode cX5_openGateCount 4 = .ok (.iload_n 2, 1) := by decide +kernel
theorem dX5_openGateCount_5 : decode cX5_openGateCount 5 = .ok (.iconst 4, 1) := by decide +kernel
theorem dX5_openGateCount_6 : decode cX5_openGateCount 6 = .ok (.if_icmp .ge 26, 3) := by decide +kernel
theorem dX5_openGateCount_9 : decode cX5_openGateCount 9 = .ok (.iload_n 1, 1) := by decide +kernel
theorem dX5_openGateCount_10 : decode cX5_openGateCount 10 = .ok (.aload_n 0, 1) := by decide +kernel
theorem dX5_openGateCount_11 : decode cX5_openGateCount 11 = .ok (.getfield 18, 3) := by decide +kernel
theorem dX5_openGateCount_14 : decode cX5_openGateCount 14 = .ok (.iload_n 2, 1) := by decide +kernel
theorem dX5_openGateCount_15 : decode cX5_openGateCount 15 = .ok (.baload, 1) := by decide +kernel
theorem dX5_openGateCount_16 : decode cX5_openGateCount 16 = .ok (.ifCond .eq 7, 3) := by decide +kernel
theorem dX5_openGateCount_19 : decode cX5_openGateCount 19 = .ok (.iconst 1, 1) := by decide +kernel
theorem dX5_openGateCount_20 : decode cX5_openGateCount 20 = .ok (.goto 4, 3) := by decide +kernel
theorem dX5_openGateCount_23 : decode cX5_openGateCount 23 = .ok (.iconst 0, 1) := by decide +kernel
theorem dX5_openGateCount_24 : decode cX5_openGateCount 24 = .ok (.iadd, 1) := by decide +kernel
theorem dX5_openGateCount_25 : decode cX5_openGateCount 25 = .ok (.istore_n 1, 1) := by decide +kernel
theorem dX5_openGateCount_26 : decode cX5_openGateCount 26 = .ok (.iinc 2 1, 3) := by decide +kernel
theorem dX5_openGateCount_29 : decode cX5_openGateCount 29 = .ok (.goto (-25), 3) := by decide +kernel
theorem dX5_openGateCount_32 : decode cX5_openGateCount 32 = .ok (.iload_n 1, 1) := by decide +kernel
theorem dX5_openGateCount_33 : decode cX5_openGateCount 33 = .ok (.ireturn, 1) := by decide +kernel
theorem dX5_rankOfBasin_0 : decode cX5_rankOfBasin 0 = .ok (.iconst 0, 1) := by decide +kernel
theorem dX5_rankOfBasin_1 : decode cX5_rankOfBasin 1 = .ok (.istore_n 2, 1) := by decide +kernel
theorem dX5_rankOfBasin_2 : decode cX5_rankOfBasin 2 = .ok (.iconst 0, 1) := by decide +kernel
theorem dX5_rankOfBasin_3 : decode cX5_rankOfBasin 3 = .ok (.istore_n 3, 1) := by decide +kernel
theorem dX5_rankOfBasin_4 : decode cX5_rankOfBasin 4 = .ok (.iload_n 3, 1) := by decide +kernel
theorem dX5_rankOfBasin_5 : decode cX5_rankOfBasin 5 = .ok (.iconst 5, 1) := by decide +kernel
theorem dX5_rankOfBasin_6 : decode cX5_rankOfBasin 6 = .ok (.if_icmp .ge 35, 3) := by decide +kernel
theorem dX5_rankOfBasin_9 : decode cX5_rankOfBasin 9 = .ok (.aload_n 0, 1) := by decide +kernel
theorem dX5_rankOfBasin_10 : decode cX5_rankOfBasin 10 = .ok (.iload_n 3, 1) := by decide +kernel
theorem dX5_rankOfBasin_11 : decode cX5_rankOfBasin 11 = .ok (.iload_n 1, 1) := by decide +kernel
theorem dX5_rankOfBasin_12 : decode cX5_rankOfBasin 12 = .ok (.invokevirtual 45, 3) := by decide +kernel
theorem dX5_rankOfBasin_15 : decode cX5_rankOfBasin 15 = .ok (.istore 4, 2) := by decide +kernel
theorem dX5_rankOfBasin_17 : decode cX5_rankOfBasin 17 = .ok (.iload 4, 2) := by decide +kernel
theorem dX5_rankOfBasin_19 : decode cX5_rankOfBasin 19 = .ok (.ifCond .gt 13, 3) := by decide +kernel
theorem dX5_rankOfBasin_22 : decode cX5_rankOfBasin 22 = .ok (.iload 4, 2) := by decide +kernel
theorem dX5_rankOfBasin_24 : decode cX5_rankOfBasin 24 = .ok (.ifCond .ne 11, 3) := by decide +kernel
theorem dX5_rankOfBasin_27 : decode cX5_rankOfBasin 27 = .ok (.iload_n 3, 1) := by decide +kernel
theorem dX5_rankOfBasin_28 : decode cX5_rankOfBasin 28 = .ok (.iload_n 1, 1) := by decide +kernel
theorem dX5_rankOfBasin_29 : decode cX5_rankOfBasin 29 = .ok (.if_icmp .ge 6, 3) := by decide +kernel
theorem dX5_rankOfBasin_32 : decode cX5_rankOfBasin 32 = .ok (.iinc 2 1, 3) := by decide +kernel
theorem dX5_rankOfBasin_35 : decode cX5_rankOfBasin 35 = .ok (.iinc 3 1, 3) := by decide +kernel
theorem dX5_rankOfBasin_38 : decode cX5_rankOfBasin 38 = .ok (.goto (-34), 3) := by decide +kernel
theorem dX5_rankOfBasin_41 : decode cX5_rankOfBasin 41 = .ok (.iload_n 2, 1) := by decide +kernel
theorem dX5_rankOfBasin_42 : decode cX5_rankOfBasin 42 = .ok (.ireturn, 1) := by decide +kernel
theorem dX5_amountsAgree_0 : decode cX5_amountsAgree 0 = .ok (.iconst 0, 1) := by decide +kernel
theorem dX5_amountsAgree_1 : decode cX5_amountsAgree 1 = .ok (.istore_n 1, 1) := by decide +kernel
theorem dX5_amountsAgree_2 : decode cX5_amountsAgree 2 = .ok (.iload_n 1, 1) := by decide +kernel
theorem dX5_amountsAgree_3 : decode cX5_amountsAgree 3 = .ok (.iconst 4, 1) := by decide +kernel
theorem dX5_amountsAgree_4 : decode cX5_amountsAgree 4 = .ok (.if_icmp .ge 24, 3) := by decide +kernel
theorem dX5_amountsAgree_7 : decode cX5_amountsAgree 7 = .ok (.aload_n 0, 1) := by decide +kernel
theorem dX5_amountsAgree_8 : decode cX5_amountsAgree 8 = .ok (.iload_n 1, 1) := by decide +kernel
theorem dX5_amountsAgree_9 : decode cX5_amountsAgree 9 = .ok (.invokevirtual 58, 3) := by decide +kernel
theorem dX5_amountsAgree_12 : decode cX5_amountsAgree 12 = .ok (.aload_n 0, 1) := by decide +kernel
theorem dX5_amountsAgree_13 : decode cX5_amountsAgree 13 = .ok (.iload_n 1, 1) := by decide +kernel
theorem dX5_amountsAgree_14 : decode cX5_amountsAgree 14 = .ok (.invokevirtual 64, 3) := by decide +kernel
theorem dX5_amountsAgree_17 : decode cX5_amountsAgree 17 = .ok (.if_icmp .eq 5, 3) := by decide +kernel
theorem dX5_amountsAgree_20 : decode cX5_amountsAgree 20 = .ok (.iconst 0, 1) := by decide +kernel
theorem dX5_amountsAgree_21 : decode cX5_amountsAgree 21 = .ok (.ireturn, 1) := by decide +kernel
theorem dX5_amountsAgree_22 : decode cX5_amountsAgree 22 = .ok (.iinc 1 1, 3) := by decide +kernel
theorem dX5_amountsAgree_25 : decode cX5_amountsAgree 25 = .ok (.goto (-23), 3) := by decide +kernel
theorem dX5_amountsAgree_28 : decode cX5_amountsAgree 28 = .ok (.iconst 1, 1) := by decide +kernel
theorem dX5_amountsAgree_29 : decode cX5_amountsAgree 29 = .ok (.ireturn, 1) := by decide +kernel
theorem dX5_isWithinLimits_0 : decode cX5_isWithinLimits 0 = .ok (.iconst 0, 1) := by decide +kernel
theorem dX5_isWithinLimits_1 : decode cX5_isWithinLimits 1 = .ok (.istore_n 1, 1) := by decide +kernel
theorem dX5_isWithinLimits_2 : decode cX5_isWithinLimits 2 = .ok (.iload_n 1, 1) := by decide +kernel
theorem dX5_isWithinLimits_3 : decode cX5_isWithinLimits 3 = .ok (.iconst 5, 1) := by decide +kernel
theorem dX5_isWithinLimits_4 : decode cX5_isWithinLimits 4 = .ok (.if_icmp .ge 27, 3) := by decide +kernel
theorem dX5_isWithinLimits_7 : decode cX5_isWithinLimits 7 = .ok (.aload_n 0, 1) := by decide +kernel
theorem dX5_isWithinLimits_8 : decode cX5_isWithinLimits 8 = .ok (.getfield 9, 3) := by decide +kernel
theorem dX5_isWithinLimits_11 : decode cX5_isWithinLimits 11 = .ok (.iload_n 1, 1) := by decide +kernel
theorem dX5_isWithinLimits_12 : decode cX5_isWithinLimits 12 = .ok (.iaload, 1) := by decide +kernel
theorem dX5_isWithinLimits_13 : decode cX5_isWithinLimits 13 = .ok (.bipush 40, 2) := by decide +kernel
theorem dX5_isWithinLimits_15 : decode cX5_isWithinLimits 15 = .ok (.iload_n 1, 1) := by decide +kernel
theorem dX5_isWithinLimits_16 : decode cX5_isWithinLimits 16 = .ok (.invokestatic 41, 3) := by decide +kernel
theorem dX5_isWithinLimits_19 : decode cX5_isWithinLimits 19 = .ok (.imul, 1) := by decide +kernel
theorem dX5_isWithinLimits_20 : decode cX5_isWithinLimits 20 = .ok (.if_icmp .le 5, 3) := by decide +kernel
theorem dX5_isWithinLimits_23 : decode cX5_isWithinLimits 23 = .ok (.iconst 0, 1) := by decide +kernel
theorem dX5_isWithinLimits_24 : decode cX5_isWithinLimits 24 = .ok (.ireturn, 1) := by decide +kernel
theorem dX5_isWithinLimits_25 : decode cX5_isWithinLimits 25 = .ok (.iinc 1 1, 3) := by decide +kernel
theorem dX5_isWithinLimits_28 : decode cX5_isWithinLimits 28 = .ok (.goto (-26), 3) := by decide +kernel
theorem dX5_isWithinLimits_31 : decode cX5_isWithinLimits 31 = .ok (.iconst 1, 1) := by decide +kernel
theorem dX5_isWithinLimits_32 : decode cX5_isWithinLimits 32 = .ok (.ireturn, 1) := by decide +kernel
theorem dX6_init_0 : decode cX6_init 0 = .ok (.aload_n 0, 1) := by decide +kernel
theorem dX6_init_1 : decode cX6_init 1 = .ok (.invokespecial 3, 3) := by decide +kernel
theorem dX6_init_4 : decode cX6_init 4 = .ok (.aload_n 0, 1) := by decide +kernel
theorem dX6_init_5 : decode cX6_init 5 = .ok (.new 9, 3) := by decide +kernel
theorem dX6_init_8 : decode cX6_init 8 = .ok (.dup, 1) := by decide +kernel
theorem dX6_init_9 : decode cX6_init 9 = .ok (.invokespecial 11, 3) := by decide +kernel
theorem dX6_init_12 : decode cX6_init 12 = .ok (.putfield 12, 3) := by decide +kernel
theorem dX6_init_15 : decode cX6_init 15 = .ok (.aload_n 0, 1) := by decide +kernel
theorem dX6_init_16 : decode cX6_init 16 = .ok (.new 9, 3) := by decide +kernel
theorem dX6_init_19 : decode cX6_init 19 = .ok (.dup, 1) := by decide +kernel
theorem dX6_init_20 : decode cX6_init 20 = .ok (.invokespecial 11, 3) := by decide +kernel
theorem dX6_init_23 : decode cX6_init 23 = .ok (.putfield 16, 3) := by decide +kernel
theorem dX6_init_26 : decode cX6_init 26 = .ok (.aload_n 0, 1) := by decide +kernel
theorem dX6_init_27 : decode cX6_init 27 = .ok (.new 9, 3) := by decide +kernel
theorem dX6_init_30 : decode cX6_init 30 = .ok (.dup, 1) := by decide +kernel
theorem dX6_init_31 : decode cX6_init 31 = .ok (.invokespecial 11, 3) := by decide +kernel
theorem dX6_init_34 : decode cX6_init 34 = .ok (.putfield 19, 3) := by decide +kernel
theorem dX6_init_37 : decode cX6_init 37 = .ok (.aload_n 0, 1) := by decide +kernel
theorem dX6_init_38 : decode cX6_init 38 = .ok (.iconst 0, 1) := by decide +kernel
theorem dX6_init_39 : decode cX6_init 39 = .ok (.putfield 22, 3) := by decide +kernel
theorem dX6_init_42 : decode cX6_init 42 = .ok (.aload_n 0, 1) := by decide +kernel
theorem dX6_init_43 : decode cX6_init 43 = .ok (.new 26, 3) := by decide +kernel
theorem dX6_init_46 : decode cX6_init 46 = .ok (.dup, 1) := by decide +kernel
theorem dX6_init_47 : decode cX6_init 47 = .ok (.invokespecial 28, 3) := by decide +kernel
theorem dX6_init_50 : decode cX6_init 50 = .ok (.putfield 29, 3) := by decide +kernel
theorem dX6_init_53 : decode cX6_init 53 = .ok (.aload_n 0, 1) := by decide +kernel
theorem dX6_init_54 : decode cX6_init 54 = .ok (.new 33, 3) := by decide +kernel
theorem dX6_init_57 : decode cX6_init 57 = .ok (.dup, 1) := by decide +kernel
theorem dX6_init_58 : decode cX6_init 58 = .ok (.invokespecial 35, 3) := by decide +kernel
theorem dX6_init_61 : decode cX6_init 61 = .ok (.putfield 36, 3) := by decide +kernel
theorem dX6_init_64 : decode cX6_init 64 = .ok (.aload_n 0, 1) := by decide +kernel
theorem dX6_init_65 : decode cX6_init 65 = .ok (.new 40, 3) := by decide +kernel
theorem dX6_init_68 : decode cX6_init 68 = .ok (.dup, 1) := by decide +kernel
theorem dX6_init_69 : decode cX6_init 69 = .ok (.invokespecial 42, 3) := by decide +kernel
theorem dX6_init_72 : decode cX6_init 72 = .ok (.putfield 43, 3) := by decide +kernel
theorem dX6_init_75 : decode cX6_init 75 = .ok (.aload_n 0, 1) := by decide +kernel
theorem dX6_init_76 : decode cX6_init 76 = .ok (.iconst (-1), 1) := by decide +kernel
theorem dX6_init_77 : decode cX6_init 77 = .ok (.putfield 47, 3) := by decide +kernel
theorem dX6_init_80 : decode cX6_init 80 = .ok (.aload_n 0, 1) := by decide +kernel
theorem dX6_init_81 : decode cX6_init 81 = .ok (.iconst (-1), 1) := by decide +kernel
theorem dX6_init_82 : decode cX6_init 82 = .ok (.putfield 51, 3) := by decide +kernel
theorem dX6_init_85 : decode cX6_init 85 = .ok (.return_, 1) := by decide +kernel
theorem dX6_addBoat_0 : decode cX6_addBoat 0 = .ok (.aload_n 0, 1) := by decide +kernel
theorem dX6_addBoat_1 : decode cX6_addBoat 1 = .ok (.bipush 98, 2) := by decide +kernel
theorem dX6_addBoat_3 : decode cX6_addBoat 3 = .ok (.iload_n 1, 1) := by decide +kernel
theorem dX6_addBoat_4 : decode cX6_addBoat 4 = .ok (.iload_n 2, 1) := by decide +kernel
theorem dX6_addBoat_5 : decode cX6_addBoat 5 = .ok (.invokevirtual 54, 3) := by decide +kernel
theorem dX6_addBoat_8 : decode cX6_addBoat 8 = .ok (.aload_n 0, 1) := by decide +kernel
theorem dX6_addBoat_9 : decode cX6_addBoat 9 = .ok (.getfield 12, 3) := by decide +kernel
theorem dX6_addBoat_12 : decode cX6_addBoat 12 = .ok (.bipush 98, 2) := by decide +kernel
theorem dX6_addBoat_14 : decode cX6_addBoat 14 = .ok (.iload_n 1, 1) := by decide +kernel
theorem dX6_addBoat_15 : decode cX6_addBoat 15 = .ok (.iload_n 2, 1) := by decide +kernel
theorem dX6_addBoat_16 : decode cX6_addBoat 16 = .ok (.iload_n 3, 1) := by decide +kernel
theorem dX6_addBoat_17 : decode cX6_addBoat 17 = .ok (.ifCond .eq 7, 3) := by decide +kernel
theorem dX6_addBoat_20 : decode cX6_addBoat 20 = .ok (.iconst 1, 1) := by decide +kernel
theorem dX6_addBoat_21 : decode cX6_addBoat 21 = .ok (.goto 4, 3) := by decide +kernel
theorem dX6_addBoat_24 : decode cX6_addBoat 24 = .ok (.iconst 0, 1) := by decide +kernel
theorem dX6_addBoat_25 : decode cX6_addBoat 25 = .ok (.invokevirtual 58, 3) := by decide +kernel
theorem dX6_addBoat_28 : decode cX6_addBoat 28 = .ok (.ireturn, 1) := by decide +kernel
theorem dX6_setValve_0 : decode cX6_setValve 0 = .ok (.aload_n 0, 1) := by decide +kernel
theorem dX6_setValve_1 : decode cX6_setValve 1 = .ok (.bipush 118, 2) := by decide +kernel
theorem dX6_setValve_3 : decode cX6_setValve 3 = .ok (.iload_n 1, 1) := by decide +kernel
theorem dX6_setValve_4 : decode cX6_setValve 4 = .ok (.iload_n 2, 1) := by decide +kernel
theorem dX6_setValve_5 : decode cX6_setValve 5 = .ok (.invokevirtual 54, 3) := by decide +kernel
theorem dX6_setValve_8 : decode cX6_setValve 8 = .ok (.aload_n 0, 1) := by decide +kernel
theorem dX6_setValve_9 : decode cX6_setValve 9 = .ok (.getfield 12, 3) := by decide +kernel
theorem dX6_setValve_12 : decode cX6_setValve 12 = .ok (.bipush 118, 2) := by decide +kernel
theorem dX6_setValve_14 : decode cX6_setValve 14 = .ok (.iload_n 1, 1) := by decide +kernel
theorem dX6_setValve_15 : decode cX6_setValve 15 = .ok (.iload_n 2, 1) := by decide +kernel
theorem dX6_setValve_16 : decode cX6_setValve 16 = .ok (.iconst 0, 1) := by decide +kernel
theorem dX6_setValve_17 : decode cX6_setValve 17 = .ok (.invokevirtual 58, 3) := by decide +kernel
theorem dX6_setValve_20 : decode cX6_setValve 20 = .ok (.ireturn, 1) := by decide +kernel
theorem dX6_openGate_0 : decode cX6_openGate 0 = .ok (.aload_n 0, 1) := by decide +kernel
theorem dX6_openGate_1 : decode cX6_openGate 1 = .ok (.bipush 111, 2) := by decide +kernel
theorem dX6_openGate_3 : decode cX6_openGate 3 = .ok (.iload_n 1, 1) := by decide +kernel
theorem dX6_openGate_4 : decode cX6_openGate 4 = .ok (.iconst 0, 1) := by decide +kernel
theorem dX6_openGate_5 : decode cX6_openGate 5 = .ok (.invokevirtual 54, 3) := by decide +kernel
theorem dX6_openGate_8 : decode cX6_openGate 8 = .ok (.aload_n 0, 1) := by decide +kernel
theorem dX6_openGate_9 : decode cX6_openGate 9 = .ok (.getfield 12, 3) := by decide +kernel
theorem dX6_openGate_12 : decode cX6_openGate 12 = .ok (.bipush 111, 2) := by decide +kernel
theorem dX6_openGate_14 : decode cX6_openGate 14 = .ok (.iload_n 1, 1) := by decide +kernel
theorem dX6_openGate_15 : decode cX6_openGate 15 = .ok (.iconst 0, 1) := by decide +kernel
theorem dX6_openGate_16 : decode cX6_openGate 16 = .ok (.iconst 0, 1) := by decide +kernel
theorem dX6_openGate_17 : decode cX6_openGate 17 = .ok (.invokevirtual 58, 3) := by decide +kernel
theorem dX6_openGate_20 : decode cX6_openGate 20 = .ok (.ireturn, 1) := by decide +kernel
theorem dX6_shutGate_0 : decode cX6_shutGate 0 = .ok (.aload_n 0, 1) := by decide +kernel
theorem dX6_shutGate_1 : decode cX6_shutGate 1 = .ok (.bipush 115, 2) := by decide +kernel
theorem dX6_shutGate_3 : decode cX6_shutGate 3 = .ok (.iload_n 1, 1) := by decide +kernel
theorem dX6_shutGate_4 : decode cX6_shutGate 4 = .ok (.iconst 0, 1) := by decide +kernel
theorem dX6_shutGate_5 : decode cX6_shutGate 5 = .ok (.invokevirtual 54, 3) := by decide +kernel
theorem dX6_shutGate_8 : decode cX6_shutGate 8 = .ok (.aload_n 0, 1) := by decide +kernel
theorem dX6_shutGate_9 : decode cX6_shutGate 9 = .ok (.getfield 12, 3) := by decide +kernel
theorem dX6_shutGate_12 : decode cX6_shutGate 12 = .ok (.bipush 115, 2) := by decide +kernel
theorem dX6_shutGate_14 : decode cX6_shutGate 14 = .ok (.iload_n 1, 1) := by decide +kernel
theorem dX6_shutGate_15 : decode cX6_shutGate 15 = .ok (.iconst 0, 1) := by decide +kernel
theorem dX6_shutGate_16 : decode cX6_shutGate 16 = .ok (.iconst 0, 1) := by decide +kernel
theorem dX6_shutGate_17 : decode cX6_shutGate 17 = .ok (.invokevirtual 58, 3) := by decide +kernel
theorem dX6_shutGate_20 : decode cX6_shutGate 20 = .ok (.ireturn, 1) := by decide +kernel
theorem dX6_setRain_0 : decode cX6_setRain 0 = .ok (.aload_n 0, 1) := by decide +kernel
theorem dX6_setRain_1 : decode cX6_setRain 1 = .ok (.bipush 114, 2) := by decide +kernel
theorem dX6_setRain_3 : decode cX6_setRain 3 = .ok (.iload_n 1, 1) := by decide +kernel
theorem dX6_setRain_4 : decode cX6_setRain 4 = .ok (.iconst 0, 1) := by decide +kernel
theorem dX6_setRain_5 : decode cX6_setRain 5 = .ok (.invokevirtual 54, 3) := by decide +kernel
theorem dX6_setRain_8 : decode cX6_setRain 8 = .ok (.aload_n 0, 1) := by decide +kernel
theorem dX6_setRain_9 : decode cX6_setRain 9 = .ok (.getfield 12, 3) := by decide +kernel
theorem dX6_setRain_12 : decode cX6_setRain 12 = .ok (.bipush 114, 2) := by decide +kernel
theorem dX6_setRain_14 : decode cX6_setRain 14 = .ok (.iload_n 1, 1) := by decide +kernel
theorem dX6_setRain_15 : decode cX6_setRain 15 = .ok (.iconst 0, 1) := by decide +kernel
theorem dX6_setRain_16 : decode cX6_setRain 16 = .ok (.iconst 0, 1) := by decide +kernel
theorem dX6_setRain_17 : decode cX6_setRain 17 = .ok (.invokevirtual 58, 3) := by decide +kernel
theorem dX6_setRain_20 : decode cX6_setRain 20 = .ok (.ireturn, 1) := by decide +kernel
theorem dX6_setDrain_0 : decode cX6_setDrain 0 = .ok (.aload_n 0, 1) := by decide +kernel
theorem dX6_setDrain_1 : decode cX6_setDrain 1 = .ok (.bipush 100, 2) := by decide +kernel
theorem dX6_setDrain_3 : decode cX6_setDrain 3 = .ok (.iload_n 1, 1) := by decide +kernel
theorem dX6_setDrain_4 : decode cX6_setDrain 4 = .ok (.iconst 0, 1) := by decide +kernel
theorem dX6_setDrain_5 : decode cX6_setDrain 5 = .ok (.invokevirtual 54, 3) := by decide +kernel
theorem dX6_setDrain_8 : decode cX6_setDrain 8 = .ok (.aload_n 0, 1) := by decide +kernel
theorem dX6_setDrain_9 : decode cX6_setDrain 9 = .ok (.getfield 12, 3) := by decide +kernel
theorem dX6_setDrain_12 : decode cX6_setDrain 12 = .ok (.bipush 100, 2) := by decide +kernel
theorem dX6_setDrain_14 : decode cX6_setDrain 14 = .ok (.iload_n 1, 1) := by decide +kernel
theorem dX6_setDrain_15 : decode cX6_setDrain 15 = .ok (.iconst 0, 1) := by decide +kernel
theorem dX6_setDrain_16 : decode cX6_setDrain 16 = .ok (.iconst 0, 1) := by decide +kernel
theorem dX6_setDrain_17 : decode cX6_setDrain 17 = .ok (.invokevirtual 58, 3) := by decide +kernel
theorem dX6_setDrain_20 : decode cX6_setDrain 20 = .ok (.ireturn, 1) := by decide +kernel
theorem dX6_advance_0 : decode cX6_advance 0 = .ok (.aload_n 0, 1) := by decide +kernel
theorem dX6_advance_1 : decode cX6_advance 1 = .ok (.bipush 119, 2) := by decide +kernel
theorem dX6_advance_3 : decode cX6_advance 3 = .ok (.iload_n 1, 1) := by decide +kernel
theorem dX6_advance_4 : decode cX6_advance 4 = .ok (.iconst 0, 1) := by decide +kernel
theorem dX6_advance_5 : decode cX6_advance 5 = .ok (.invokevirtual 54, 3) := by decide +kernel
theorem dX6_advance_8 : decode cX6_advance 8 = .ok (.aload_n 0, 1) := by decide +kernel
theorem dX6_advance_9 : decode cX6_advance 9 = .ok (.getfield 12, 3) := by decide +kernel
theorem dX6_advance_12 : decode cX6_advance 12 = .ok (.bipush 119, 2) := by decide +kernel
theorem dX6_advance_14 : decode cX6_advance 14 = .ok (.iload_n 1, 1) := by decide +kernel
theorem dX6_advance_15 : decode cX6_advance 15 = .ok (.iconst 0, 1) := by decide +kernel
theorem dX6_advance_16 : decode cX6_advance 16 = .ok (.iconst 0, 1) := by decide +kernel
theorem dX6_advance_17 : decode cX6_advance 17 = .ok (.invokevirtual 58, 3) := by decide +kernel
theorem dX6_advance_20 : decode cX6_advance 20 = .ok (.ireturn, 1) := by decide +kernel
theorem dX6_area_0 : decode cX6_area 0 = .ok (.iload_n 1, 1) := by decide +kernel
theorem dX6_area_1 : decode cX6_area 1 = .ok (.invokestatic 62, 3) := by decide +kernel
theorem dX6_area_4 : decode cX6_area 4 = .ok (.iload_n 1, 1) := by decide +kernel
theorem dX6_area_5 : decode cX6_area 5 = .ok (.invokestatic 66, 3) := by decide +kernel
theorem dX6_area_8 : decode cX6_area 8 = .ok (.ireturn, 1) := by decide +kernel
theorem dX6_volume_0 : decode cX6_volume 0 = .ok (.iload_n 1, 1) := by decide +kernel
theorem dX6_volume_1 : decode cX6_volume 1 = .ok (.invokestatic 62, 3) := by decide +kernel
theorem dX6_volume_4 : decode cX6_volume 4 = .ok (.aload_n 0, 1) := by decide +kernel
theorem dX6_volume_5 : decode cX6_volume 5 = .ok (.getfield 12, 3) := by decide +kernel
theorem dX6_volume_8 : decode cX6_volume 8 = .ok (.getfield 70, 3) := by decide +kernel
theorem dX6_volume_11 : decode cX6_volume 11 = .ok (.getfield 74, 3) := by decide +kernel
theorem dX6_volume_14 : decode cX6_volume 14 = .ok (.iload_n 1, 1) := by decide +kernel
theorem dX6_volume_15 : decode cX6_volume 15 = .ok (.iaload, 1) := by decide +kernel
theorem dX6_volume_16 : decode cX6_volume 16 = .ok (.ireturn, 1) := by decide +kernel
theorem dX6_level_0 : decode cX6_level 0 = .ok (.iload_n 1, 1) := by decide +kernel
theorem dX6_level_1 : decode cX6_level 1 = .ok (.invokestatic 62, 3) := by decide +kernel
theorem dX6_level_4 : decode cX6_level 4 = .ok (.aload_n 0, 1) := by decide +kernel
theorem dX6_level_5 : decode cX6_level 5 = .ok (.getfield 12, 3) := by decide +kernel
theorem dX6_level_8 : decode cX6_level 8 = .ok (.getfield 70, 3) := by decide +kernel
theorem dX6_level_11 : decode cX6_level 11 = .ok (.iload_n 1, 1) := by decide +kernel
theorem dX6_level_12 : decode cX6_level 12 = .ok (.invokevirtual 80, 3) := by decide +kernel
theorem dX6_level_15 : decode cX6_level 15 = .ok (.ireturn, 1) := by decide +kernel
theorem dX6_exactLevel_0 : decode cX6_exactLevel 0 = .ok (.iload_n 1, 1) := by decide +kernel
theorem dX6_exactLevel_1 : decode cX6_exactLevel 1 = .ok (.invokestatic 62, 3) := by decide +kernel
theorem dX6_exactLevel_4 : decode cX6_exactLevel 4 = .ok (.aload_n 0, 1) := by decide +kernel
theorem dX6_exactLevel_5 : decode cX6_exactLevel 5 = .ok (.getfield 12, 3) := by decide +kernel
theorem dX6_exactLevel_8 : decode cX6_exactLevel 8 = .ok (.getfield 70, 3) := by decide +kernel
theorem dX6_exactLevel_11 : decode cX6_exactLevel 11 = .ok (.getfield 74, 3) := by decide +kernel
theorem dX6_exactLevel_14 : decode cX6_exactLevel 14 = .ok (.iload_n 1, 1) := by decide +kernel
theorem dX6_exactLevel_15 : decode cX6_exactLevel 15 = .ok (.iaload, 1) := by decide +kernel
theorem dX6_exactLevel_16 : decode cX6_exactLevel 16 = .ok (.i2d, 1) := by decide +kernel
theorem dX6_exactLevel_17 : decode cX6_exactLevel 17 = .ok (.iload_n 1, 1) := by decide +kernel
theorem dX6_exactLevel_18 : decode cX6_exactLevel 18 = .ok (.invokestatic 66, 3) := by decide +kernel
theorem dX6_exactLevel_21 : decode cX6_exactLevel 21 = .ok (.i2d, 1) := by decide +kernel
theorem dX6_exactLevel_22 : decode cX6_exactLevel 22 = .ok (.ddiv, 1) := by decide +kernel
theorem dX6_exactLevel_23 : decode cX6_exactLevel 23 = .ok (.dreturn, 1) := by decide +kernel
theorem dX6_isHigher_0 : decode cX6_isHigher 0 = .ok (.iload_n 1, 1) := by decide +kernel
theorem dX6_isHigher_1 : decode cX6_isHigher 1 = .ok (.invokestatic 62, 3) := by decide +kernel
theorem dX6_isHigher_4 : decode cX6_isHigher 4 = .ok (.iload_n 2, 1) := by decide +kernel
theorem dX6_isHigher_5 : decode cX6_isHigher 5 = .ok (.invokestatic 62, 3) := by decide +kernel
theorem dX6_isHigher_8 : decode cX6_isHigher 8 = .ok (.aload_n 0, 1) := by decide +kernel
theorem dX6_isHigher_9 : decode cX6_isHigher 9 = .ok (.getfield 12, 3) := by decide +kernel
theorem dX6_isHigher_12 : decode cX6_isHigher 12 = .ok (.getfield 70, 3) := by decide +kernel
theorem dX6_isHigher_15 : decode cX6_isHigher 15 = .ok (.iload_n 1, 1) := by decide +kernel
theorem dX6_isHigher_16 : decode cX6_isHigher 16 = .ok (.iload_n 2, 1) := by decide +kernel
theorem dX6_isHigher_17 : decode cX6_isHigher 17 = .ok (.invokevirtual 83, 3) := by decide +kernel
theorem dX6_isHigher_20 : decode cX6_isHigher 20 = .ok (.ifCond .le 7, 3) := by decide +kernel
theorem dX6_isHigher_23 : decode cX6_isHigher 23 = .ok (.iconst 1, 1) := by decide +kernel
theorem dX6_isHigher_24 : decode cX6_isHigher 24 = .ok (.goto 4, 3) := by decide +kernel
theorem dX6_isHigher_27 : decode cX6_isHigher 27 = .ok (.iconst 0, 1) := by decide +kernel
theorem dX6_isHigher_28 : decode cX6_isHigher 28 = .ok (.ireturn, 1) := by decide +kernel
theorem dX6_equalizingAmount_0 : decode cX6_equalizingAmount 0 = .ok (.iload_n 1, 1) := by decide +kernel
theorem dX6_equalizingAmount_1 : decode cX6_equalizingAmount 1 = .ok (.invokestatic 87, 3) := by decide +kernel
theorem dX6_equalizingAmount_4 : decode cX6_equalizingAmount 4 = .ok (.aload_n 0, 1) := by decide +kernel
theorem dX6_equalizingAmount_5 : decode cX6_equalizingAmount 5 = .ok (.getfield 12, 3) := by decide +kernel
theorem dX6_equalizingAmount_8 : decode cX6_equalizingAmount 8 = .ok (.getfield 70, 3) := by decide +kernel
theorem dX6_equalizingAmount_11 : decode cX6_equalizingAmount 11 = .ok (.iload_n 1, 1) := by decide +kernel
theorem dX6_equalizingAmount_12 : decode cX6_equalizingAmount 12 = .ok (.invokevirtual 90, 3) := by decide +kernel
theorem dX6_equalizingAmount_15 : decode cX6_equalizingAmount 15 = .ok (.ireturn, 1) := by decide +kernel
theorem dX6_equalizingAmountByLitres_0 : decode cX6_equalizingAmountByLitres 0 = .ok (.iload_n 1, 1) := by decide +kernel
theorem dX6_equalizingAmountByLitres_1 : decode cX6_equalizingAmountByLitres 1 = .ok (.invokestatic 87, 3) := by decide +kernel
theorem dX6_equalizingAmountByLitres_4 : decode cX6_equalizingAmountByLitres 4 = .ok (.aload_n 0, 1) := by decide +kernel
theorem dX6_equalizingAmountByLitres_5 : decode cX6_equalizingAmountByLitres 5 = .ok (.getfield 12, 3) := by decide +kernel
theorem dX6_equalizingAmountByLitres_8 : decode cX6_equalizingAmountByLitres 8 = .ok (.getfield 70, 3) := by decide +kernel
theorem dX6_equalizingAmountByLitres_11 : decode cX6_equalizingAmountByLitres 11 = .ok (.iload_n 1, 1) := by decide +kernel
theorem dX6_equalizingAmountByLitres_12 : decode cX6_equalizingAmountByLitres 12 = .ok (.invokevirtual 93, 3) := by decide +kernel
theorem dX6_equalizingAmountByLitres_15 : decode cX6_equalizingAmountByLitres 15 = .ok (.ireturn, 1) := by decide +kernel
theorem dX6_opening_0 : decode cX6_opening 0 = .ok (.iload_n 1, 1) := by decide +kernel
theorem dX6_opening_1 : decode cX6_opening 1 = .ok (.invokestatic 87, 3) := by decide +kernel
theorem dX6_opening_4 : decode cX6_opening 4 = .ok (.aload_n 0, 1) := by decide +kernel
theorem dX6_opening_5 : decode cX6_opening 5 = .ok (.getfield 12, 3) := by decide +kernel
theorem dX6_opening_8 : decode cX6_opening 8 = .ok (.getfield 70, 3) := by decide +kernel
theorem dX6_opening_11 : decode cX6_opening 11 = .ok (.getfield 96, 3) := by decide +kernel
theorem dX6_opening_14 : decode cX6_opening 14 = .ok (.iload_n 1, 1) := by decide +kernel
theorem dX6_opening_15 : decode cX6_opening 15 = .ok (.iaload, 1) := by decide +kernel
theorem dX6_opening_16 : decode cX6_opening 16 = .ok (.ireturn, 1) := by decide +kernel
theorem dX6_isOpen_0 : decode cX6_isOpen 0 = .ok (.iload_n 1, 1) := by decide +kernel
theorem dX6_isOpen_1 : decode cX6_isOpen 1 = .ok (.invokestatic 87, 3) := by decide +kernel
theorem dX6_isOpen_4 : decode cX6_isOpen 4 = .ok (.aload_n 0, 1) := by decide +kernel
theorem dX6_isOpen_5 : decode cX6_isOpen 5 = .ok (.getfield 12, 3) := by decide +kernel
theorem dX6_isOpen_8 : decode cX6_isOpen 8 = .ok (.getfield 70, 3) := by decide +kernel
theorem dX6_isOpen_11 : decode cX6_isOpen 11 = .ok (.getfield 99, 3) := by decide +kernel
theorem dX6_isOpen_14 : decode cX6_isOpen 14 = .ok (.iload_n 1, 1) := by decide +kernel
theorem dX6_isOpen_15 : decode cX6_isOpen 15 = .ok (.baload, 1) := by decide +kernel
theorem dX6_isOpen_16 : decode cX6_isOpen 16 = .ok (.ireturn, 1) := by decide +kernel
theorem dX6_flow_0 : decode cX6_flow 0 = .ok (.iload_n 1, 1) := by decide +kernel
theorem dX6_flow_1 : decode cX6_flow 1 = .ok (.invokestatic 87, 3) := by decide +kernel
theorem dX6_flow_4 : decode cX6_flow 4 = .ok (.aload_n 0, 1) := by decide +kernel
theorem dX6_flow_5 : decode cX6_flow 5 = .ok (.getfield 12, 3) := by decide +kernel
theorem dX6_flow_8 : decode cX6_flow 8 = .ok (.getfield 70, 3) := by decide +kernel
theorem dX6_flow_11 : decode cX6_flow 11 = .ok (.iload_n 1, 1) := by decide +kernel
theorem dX6_flow_12 : decode cX6_flow 12 = .ok (.invokevirtual 103, 3) := by decide +kernel
theorem dX6_flow_15 : decode cX6_flow 15 = .ok (.ireturn, 1) := by decide +kernel
theorem dX6_totalVolume_0 : decode cX6_totalVolume 0 = .ok (.aload_n 0, 1) := by decide +kernel
theorem dX6_totalVolume_1 : decode cX6_totalVolume 1 = .ok (.getfield 12, 3) := by decide +kernel
theorem dX6_totalVolume_4 : decode cX6_totalVolume 4 = .ok (.getfield 70, 3) := by decide +kernel
theorem dX6_totalVolume_7 : decode cX6_totalVolume 7 = .ok (.invokevirtual 112, 3) := by decide +kernel
theorem dX6_totalVolume_10 : decode cX6_totalVolume 10 = .ok (.ireturn, 1) := by decide +kernel
theorem dX6_totalVolumeByAccounts_0 : decode cX6_totalVolumeByAccounts 0 = .ok (.aload_n 0, 1) := by decide +kernel
theorem dX6_totalVolumeByAccounts_1 : decode cX6_totalVolumeByAccounts 1 = .ok (.getfield 12, 3) := by decide +kernel
theorem dX6_totalVolumeByAccounts_4 : decode cX6_totalVolumeByAccounts 4 = .ok (.getfield 70, 3) := by decide +kernel
theorem dX6_totalVolumeByAccounts_7 : decode cX6_totalVolumeByAccounts 7 = .ok (.invokevirtual 116, 3) := by decide +kernel
theorem dX6_totalVolumeByAccounts_10 : decode cX6_totalVolumeByAccounts 10 = .ok (.ireturn, 1) := by decide +kernel
theorem dX6_rainTotal_0 : decode cX6_rainTotal 0 = .ok (.aload_n 0, 1) := by decide +kernel
theorem dX6_rainTotal_1 : decode cX6_rainTotal 1 = .ok (.getfield 12, 3) := by decide +kernel
theorem dX6_rainTotal_4 : decode cX6_rainTotal 4 = .ok (.getfield 70, 3) := by decide +kernel
theorem dX6_rainTotal_7 : decode cX6_rainTotal 7 = .ok (.getfield 119, 3) := by decide +kernel
theorem dX6_rainTotal_10 : decode cX6_rainTotal 10 = .ok (.ireturn, 1) := by decide +kernel
theorem dX6_drainTotal_0 : decode cX6_drainTotal 0 = .ok (.aload_n 0, 1) := by decide +kernel
theorem dX6_drainTotal_1 : decode cX6_drainTotal 1 = .ok (.getfield 12, 3) := by decide +kernel
theorem dX6_drainTotal_4 : decode cX6_drainTotal 4 = .ok (.getfield 70, 3) := by decide +kernel
theorem dX6_drainTotal_7 : decode cX6_drainTotal 7 = .ok (.getfield 122, 3) := by decide +kernel
theorem dX6_drainTotal_10 : decode cX6_drainTotal 10 = .ok (.ireturn, 1) := by decide +kernel
theorem dX6_spilledTotal_0 : decode cX6_spilledTotal 0 = .ok (.aload_n 0, 1) := by decide +kernel
theorem dX6_spilledTotal_1 : decode cX6_spilledTotal 1 = .ok (.getfield 12, 3) := by decide +kernel
theorem dX6_spilledTotal_4 : decode cX6_spilledTotal 4 = .ok (.getfield 70, 3) := by decide +kernel
theorem dX6_spilledTotal_7 : decode cX6_spilledTotal 7 = .ok (.getfield 125, 3) := by decide +kernel
theorem dX6_spilledTotal_10 : decode cX6_spilledTotal 10 = .ok (.ireturn, 1) := by decide +kernel
theorem dX6_basinByLevel_0 : decode cX6_basinByLevel 0 = .ok (.iconst 0, 1) := by decide +kernel
theorem dX6_basinByLevel_1 : decode cX6_basinByLevel 1 = .ok (.istore_n 2, 1) := by decide +kernel
theorem dX6_basinByLevel_2 : decode cX6_basinByLevel 2 = .ok (.iload_n 2, 1) := by decide +kernel
theorem dX6_basinByLevel_3 : decode cX6_basinByLevel 3 = .ok (.iconst 5, 1) := by decide +kernel
theorem dX6_basinByLevel_4 : decode cX6_basinByLevel 4 = .ok (.if_icmp .ge 26, 3) := by decide +kernel
theorem dX6_basinByLevel_7 : decode cX6_basinByLevel 7 = .ok (.aload_n 0, 1) := by decide +kernel
theorem dX6_basinByLevel_8 : decode cX6_basinByLevel 8 = .ok (.getfield 12, 3) := by decide +kernel
theorem dX6_basinByLevel_11 : decode cX6_basinByLevel 11 = .ok (.getfield 70, 3) := by decide +kernel
theorem dX6_basinByLevel_14 : decode cX6_basinByLevel 14 = .ok (.iload_n 2, 1) := by decide +kernel
theorem dX6_basinByLevel_15 : decode cX6_basinByLevel 15 = .ok (.invokevirtual 128, 3) := by decide +kernel
theorem dX6_basinByLevel_18 : decode cX6_basinByLevel 18 = .ok (.iload_n 1, 1) := by decide +kernel
theorem dX6_basinByLevel_19 : decode cX6_basinByLevel 19 = .ok (.if_icmp .ne 5, 3) := by decide +kernel
theorem dX6_basinByLevel_22 : decode cX6_basinByLevel 22 = .ok (.iload_n 2, 1) := by decide +kernel
theorem dX6_basinByLevel_23 : decode cX6_basinByLevel 23 = .ok (.ireturn, 1) := by decide +kernel
theorem dX6_basinByLevel_24 : decode cX6_basinByLevel 24 = .ok (.iinc 2 1, 3) := by decide +kernel
theorem dX6_basinByLevel_27 : decode cX6_basinByLevel 27 = .ok (.goto (-25), 3) := by decide +kernel
theorem dX6_basinByLevel_30 : decode cX6_basinByLevel 30 = .ok (.new 131, 3) := by decide +kernel
theorem dX6_basinByLevel_33 : decode cX6_basinByLevel 33 = .ok (.dup, 1) := by decide +kernel
theorem dX6_basinByLevel_34 : decode cX6_basinByLevel 34 = .ok (.ldc 133, 2) := by decide +kernel
theorem dX6_basinByLevel_36 : decode cX6_basinByLevel 36 = .ok (.invokespecial 135, 3) := by decide +kernel
theorem dX6_basinByLevel_39 : decode cX6_basinByLevel 39 = .ok (.athrow, 1) := by decide +kernel
theorem dX6_boatCount_0 : decode cX6_boatCount 0 = .ok (.aload_n 0, 1) := by decide +kernel
theorem dX6_boatCount_1 : decode cX6_boatCount 1 = .ok (.getfield 12, 3) := by decide +kernel
theorem dX6_boatCount_4 : decode cX6_boatCount 4 = .ok (.getfield 138, 3) := by decide +kernel
theorem dX6_boatCount_7 : decode cX6_boatCount 7 = .ok (.getfield 142, 3) := by decide +kernel
theorem dX6_boatCount_10 : decode cX6_boatCount 10 = .ok (.ireturn, 1) := by decide +kernel
theorem dX6_colour_0 : decode cX6_colour 0 = .ok (.aload_n 0, 1) := by decide +kernel
theorem dX6_colour_1 : decode cX6_colour 1 = .ok (.iload_n 1, 1) := by decide +kernel
theorem dX6_colour_2 : decode cX6_colour 2 = .ok (.invokevirtual 147, 3) := by decide +kernel
theorem dX6_colour_5 : decode cX6_colour 5 = .ok (.aload_n 0, 1) := by decide +kernel
theorem dX6_colour_6 : decode cX6_colour 6 = .ok (.getfield 12, 3) := by decide +kernel
theorem dX6_colour_9 : decode cX6_colour 9 = .ok (.getfield 138, 3) := by decide +kernel
theorem dX6_colour_12 : decode cX6_colour 12 = .ok (.iload_n 1, 1) := by decide +kernel
theorem dX6_colour_13 : decode cX6_colour 13 = .ok (.invokevirtual 150, 3) := by decide +kernel
theorem dX6_colour_16 : decode cX6_colour 16 = .ok (.ireturn, 1) := by decide +kernel
theorem dX6_draught_0 : decode cX6_draught 0 = .ok (.aload_n 0, 1) := by decide +kernel
theorem dX6_draught_1 : decode cX6_draught 1 = .ok (.iload_n 1, 1) := by decide +kernel
theorem dX6_draught_2 : decode cX6_draught 2 = .ok (.invokevirtual 147, 3) := by decide +kernel
theorem dX6_draught_5 : decode cX6_draught 5 = .ok (.aload_n 0, 1) := by decide +kernel
theorem dX6_draught_6 : decode cX6_draught 6 = .ok (.getfield 12, 3) := by decide +kernel
theorem dX6_draught_9 : decode cX6_draught 9 = .ok (.getfield 138, 3) := by decide +kernel
theorem dX6_draught_12 : decode cX6_draught 12 = .ok (.getfield 154, 3) := by decide +kernel
theorem dX6_draught_15 : decode cX6_draught 15 = .ok (.iload_n 1, 1) := by decide +kernel
theorem dX6_draught_16 : decode cX6_draught 16 = .ok (.iaload, 1) := by decide +kernel
theorem dX6_draught_17 : decode cX6_draught 17 = .ok (.ireturn, 1) := by decide +kernel
theorem dX6_isGoingDown_0 : decode cX6_isGoingDown 0 = .ok (.aload_n 0, 1) := by decide +kernel
theorem dX6_isGoingDown_1 : decode cX6_isGoingDown 1 = .ok (.iload_n 1, 1) := by decide +kernel
theorem dX6_isGoingDown_2 : decode cX6_isGoingDown 2 = .ok (.invokevirtual 147, 3) := by decide +kernel
theorem dX6_isGoingDown_5 : decode cX6_isGoingDown 5 = .ok (.aload_n 0, 1) := by decide +kernel
theorem dX6_isGoingDown_6 : decode cX6_isGoingDown 6 = .ok (.getfield 12, 3) := by decide +kernel
theorem dX6_isGoingDown_9 : decode cX6_isGoingDown 9 = .ok (.getfield 138, 3) := by decide +kernel
theorem dX6_isGoingDown_12 : decode cX6_isGoingDown 12 = .ok (.getfield 157, 3) := by decide +kernel
theorem dX6_isGoingDown_15 : decode cX6_isGoingDown 15 = .ok (.iload_n 1, 1) := by decide +kernel
theorem dX6_isGoingDown_16 : decode cX6_isGoingDown 16 = .ok (.baload, 1) := by decide +kernel
theorem dX6_isGoingDown_17 : decode cX6_isGoingDown 17 = .ok (.ireturn, 1) := by decide +kernel
theorem dX6_basinOf_0 : decode cX6_basinOf 0 = .ok (.aload_n 0, 1) := by decide +kernel
theorem dX6_basinOf_1 : decode cX6_basinOf 1 = .ok (.iload_n 1, 1) := by decide +kernel
theorem dX6_basinOf_2 : decode cX6_basinOf 2 = .ok (.invokevirtual 147, 3) := by decide +kernel
theorem dX6_basinOf_5 : decode cX6_basinOf 5 = .ok (.aload_n 0, 1) := by decide +kernel
theorem dX6_basinOf_6 : decode cX6_basinOf 6 = .ok (.getfield 12, 3) := by decide +kernel
theorem dX6_basinOf_9 : decode cX6_basinOf 9 = .ok (.getfield 138, 3) := by decide +kernel
theorem dX6_basinOf_12 : decode cX6_basinOf 12 = .ok (.getfield 160, 3) := by decide +kernel
theorem dX6_basinOf_15 : decode cX6_basinOf 15 = .ok (.iload_n 1, 1) := by decide +kernel
theorem dX6_basinOf_16 : decode cX6_basinOf 16 = .ok (.iaload, 1) := by decide +kernel
theorem dX6_basinOf_17 : decode cX6_basinOf 17 = .ok (.ireturn, 1) := by decide +kernel
theorem dX6_boatsIn_0 : decode cX6_boatsIn 0 = .ok (.iload_n 1, 1) := by decide +kernel
theorem dX6_boatsIn_1 : decode cX6_boatsIn 1 = .ok (.invokestatic 62, 3) := by decide +kernel
theorem dX6_boatsIn_4 : decode cX6_boatsIn 4 = .ok (.aload_n 0, 1) := by decide +kernel
theorem dX6_boatsIn_5 : decode cX6_boatsIn 5 = .ok (.getfield 12, 3) := by decide +kernel
theorem dX6_boatsIn_8 : decode cX6_boatsIn 8 = .ok (.getfield 138, 3) := by decide +kernel
theorem dX6_boatsIn_11 : decode cX6_boatsIn 11 = .ok (.iload_n 1, 1) := by decide +kernel
theorem dX6_boatsIn_12 : decode cX6_boatsIn 12 = .ok (.invokevirtual 163, 3) := by decide +kernel
theorem dX6_boatsIn_15 : decode cX6_boatsIn 15 = .ok (.ireturn, 1) := by decide +kernel
theorem dX6_boatInOrder_0 : decode cX6_boatInOrder 0 = .ok (.iconst 0, 1) := by decide +kernel
theorem dX6_boatInOrder_1 : decode cX6_boatInOrder 1 = .ok (.istore_n 2, 1) := by decide +kernel
theorem dX6_boatInOrder_2 : decode cX6_boatInOrder 2 = .ok (.iload_n 2, 1) := by decide +kernel
theorem dX6_boatInOrder_3 : decode cX6_boatInOrder 3 = .ok (.aload_n 0, 1) := by decide +kernel
theorem dX6_boatInOrder_4 : decode cX6_boatInOrder 4 = .ok (.getfield 12, 3) := by decide +kernel
theorem dX6_boatInOrder_7 : decode cX6_boatInOrder 7 = .ok (.getfield 138, 3) := by decide +kernel
theorem dX6_boatInOrder_10 : decode cX6_boatInOrder 10 = .ok (.getfield 142, 3) := by decide +kernel
theorem dX6_boatInOrder_13 : decode cX6_boatInOrder 13 = .ok (.if_icmp .ge 26, 3) := by decide +kernel
theorem dX6_boatInOrder_16 : decode cX6_boatInOrder 16 = .ok (.aload_n 0, 1) := by decide +kernel
theorem dX6_boatInOrder_17 : decode cX6_boatInOrder 17 = .ok (.getfield 12, 3) := by decide +kernel
theorem dX6_boatInOrder_20 : decode cX6_boatInOrder 20 = .ok (.getfield 138, 3) := by decide +kernel
theorem dX6_boatInOrder_23 : decode cX6_boatInOrder 23 = .ok (.iload_n 2, 1) := by decide +kernel
theorem dX6_boatInOrder_24 : decode cX6_boatInOrder 24 = .ok (.invokevirtual 166, 3) := by decide +kernel
theorem dX6_boatInOrder_27 : decode cX6_boatInOrder 27 = .ok (.iload_n 1, 1) := by decide +kernel
theorem dX6_boatInOrder_28 : decode cX6_boatInOrder 28 = .ok (.if_icmp .ne 5, 3) := by decide +kernel
theorem dX6_boatInOrder_31 : decode cX6_boatInOrder 31 = .ok (.iload_n 2, 1) := by decide +kernel
theorem dX6_boatInOrder_32 : decode cX6_boatInOrder 32 = .ok (.ireturn, 1) := by decide +kernel
theorem dX6_boatInOrder_33 : decode cX6_boatInOrder 33 = .ok (.iinc 2 1, 3) := by decide +kernel
theorem dX6_boatInOrder_36 : decode cX6_boatInOrder 36 = .ok (.goto (-34), 3) := by decide +kernel
theorem dX6_boatInOrder_39 : decode cX6_boatInOrder 39 = .ok (.new 131, 3) := by decide +kernel
theorem dX6_boatInOrder_42 : decode cX6_boatInOrder 42 = .ok (.dup, 1) := by decide +kernel
theorem dX6_boatInOrder_43 : decode cX6_boatInOrder 43 = .ok (.ldc 133, 2) := by decide +kernel
theorem dX6_boatInOrder_45 : decode cX6_boatInOrder 45 = .ok (.invokespecial 135, 3) := by decide +kernel
theorem dX6_boatInOrder_48 : decode cX6_boatInOrder 48 = .ok (.athrow, 1) := by decide +kernel
theorem dX6_floats_0 : decode cX6_floats 0 = .ok (.aload_n 0, 1) := by decide +kernel
theorem dX6_floats_1 : decode cX6_floats 1 = .ok (.iload_n 1, 1) := by decide +kernel
theorem dX6_floats_2 : decode cX6_floats 2 = .ok (.invokevirtual 147, 3) := by decide +kernel
theorem dX6_floats_5 : decode cX6_floats 5 = .ok (.iload_n 2, 1) := by decide +kernel
theorem dX6_floats_6 : decode cX6_floats 6 = .ok (.invokestatic 62, 3) := by decide +kernel
theorem dX6_floats_9 : decode cX6_floats 9 = .ok (.aload_n 0, 1) := by decide +kernel
theorem dX6_floats_10 : decode cX6_floats 10 = .ok (.getfield 12, 3) := by decide +kernel
theorem dX6_floats_13 : decode cX6_floats 13 = .ok (.getfield 70, 3) := by decide +kernel
theorem dX6_floats_16 : decode cX6_floats 16 = .ok (.iload_n 2, 1) := by decide +kernel
theorem dX6_floats_17 : decode cX6_floats 17 = .ok (.aload_n 0, 1) := by decide +kernel
theorem dX6_floats_18 : decode cX6_floats 18 = .ok (.getfield 12, 3) := by decide +kernel
theorem dX6_floats_21 : decode cX6_floats 21 = .ok (.getfield 138, 3) := by decide +kernel
theorem dX6_floats_24 : decode cX6_floats 24 = .ok (.getfield 154, 3) := by decide +kernel
theorem dX6_floats_27 : decode cX6_floats 27 = .ok (.iload_n 1, 1) := by decide +kernel
theorem dX6_floats_28 : decode cX6_floats 28 = .ok (.iaload, 1) := by decide +kernel
theorem dX6_floats_29 : decode cX6_floats 29 = .ok (.invokevirtual 169, 3) := by decide +kernel
theorem dX6_floats_32 : decode cX6_floats 32 = .ok (.ireturn, 1) := by decide +kernel
theorem dX6_minutesUntilEqual_0 : decode cX6_minutesUntilEqual 0 = .ok (.iload_n 1, 1) := by decide +kernel
theorem dX6_minutesUntilEqual_1 : decode cX6_minutesUntilEqual 1 = .ok (.invokestatic 87, 3) := by decide +kernel
theorem dX6_minutesUntilEqual_4 : decode cX6_minutesUntilEqual 4 = .ok (.aload_n 0, 1) := by decide +kernel
theorem dX6_minutesUntilEqual_5 : decode cX6_minutesUntilEqual 5 = .ok (.getfield 16, 3) := by decide +kernel
theorem dX6_minutesUntilEqual_8 : decode cX6_minutesUntilEqual 8 = .ok (.aload_n 0, 1) := by decide +kernel
theorem dX6_minutesUntilEqual_9 : decode cX6_minutesUntilEqual 9 = .ok (.getfield 12, 3) := by decide +kernel
theorem dX6_minutesUntilEqual_12 : decode cX6_minutesUntilEqual 12 = .ok (.invokevirtual 187, 3) := by decide +kernel
theorem dX6_minutesUntilEqual_15 : decode cX6_minutesUntilEqual 15 = .ok (.iconst 0, 1) := by decide +kernel
theorem dX6_minutesUntilEqual_16 : decode cX6_minutesUntilEqual 16 = .ok (.istore_n 2, 1) := by decide +kernel
theorem dX6_minutesUntilEqual_17 : decode cX6_minutesUntilEqual 17 = .ok (.iload_n 2, 1) := by decide +kernel
theorem dX6_minutesUntilEqual_18 : decode cX6_minutesUntilEqual 18 = .ok (.sipush 200, 3) := by decide +kernel
theorem dX6_minutesUntilEqual_21 : decode cX6_minutesUntilEqual 21 = .ok (.if_icmp .gt 34, 3) := by decide +kernel
theorem dX6_minutesUntilEqual_24 : decode cX6_minutesUntilEqual 24 = .ok (.aload_n 0, 1) := by decide +kernel
theorem dX6_minutesUntilEqual_25 : decode cX6_minutesUntilEqual 25 = .ok (.getfield 16, 3) := by decide +kernel
theorem dX6_minutesUntilEqual_28 : decode cX6_minutesUntilEqual 28 = .ok (.getfield 70, 3) := by decide +kernel
theorem dX6_minutesUntilEqual_31 : decode cX6_minutesUntilEqual 31 = .ok (.iload_n 1, 1) := by decide +kernel
theorem dX6_minutesUntilEqual_32 : decode cX6_minutesUntilEqual 32 = .ok (.invokevirtual 90, 3) := by decide +kernel
theorem dX6_minutesUntilEqual_35 : decode cX6_minutesUntilEqual 35 = .ok (.ifCond .ne 5, 3) := by decide +kernel
theorem dX6_minutesUntilEqual_38 : decode cX6_minutesUntilEqual 38 = .ok (.iload_n 2, 1) := by decide +kernel
theorem dX6_minutesUntilEqual_39 : decode cX6_minutesUntilEqual 39 = .ok (.ireturn, 1) := by decide +kernel
theorem dX6_minutesUntilEqual_40 : decode cX6_minutesUntilEqual 40 = .ok (.aload_n 0, 1) := by decide +kernel
theorem dX6_minutesUntilEqual_41 : decode cX6_minutesUntilEqual 41 = .ok (.getfield 16, 3) := by decide +kernel
theorem dX6_minutesUntilEqual_44 : decode cX6_minutesUntilEqual 44 = .ok (.iconst 1, 1) := by decide +kernel
theorem dX6_minutesUntilEqual_45 : decode cX6_minutesUntilEqual 45 = .ok (.invokevirtual 191, 3) := by decide +kernel
theorem dX6_minutesUntilEqual_48 : decode cX6_minutesUntilEqual 48 = .ok (.pop, 1) := by decide +kernel
theorem dX6_minutesUntilEqual_49 : decode cX6_minutesUntilEqual 49 = .ok (.iinc 2 1, 3) := by decide +kernel
theorem dX6_minutesUntilEqual_52 : decode cX6_minutesUntilEqual 52 = .ok (.goto (-35), 3) := by decide +kernel
theorem dX6_minutesUntilEqual_55 : decode cX6_minutesUntilEqual 55 = .ok (.new 131, 3) := by decide +kernel
theorem dX6_minutesUntilEqual_58 : decode cX6_minutesUntilEqual 58 = .ok (.dup, 1) := by decide +kernel
theorem dX6_minutesUntilEqual_59 : decode cX6_minutesUntilEqual 59 = .ok (.ldc 200, 2) := by decide +kernel
theorem dX6_minutesUntilEqual_61 : decode cX6_minutesUntilEqual 61 = .ok (.invokespecial 135, 3) := by decide +kernel
theorem dX6_minutesUntilEqual_64 : decode cX6_minutesUntilEqual 64 = .ok (.athrow, 1) := by decide +kernel
theorem dX6_eventCount_0 : decode cX6_eventCount 0 = .ok (.aload_n 0, 1) := by decide +kernel
theorem dX6_eventCount_1 : decode cX6_eventCount 1 = .ok (.getfield 12, 3) := by decide +kernel
theorem dX6_eventCount_4 : decode cX6_eventCount 4 = .ok (.getfield 204, 3) := by decide +kernel
theorem dX6_eventCount_7 : decode cX6_eventCount 7 = .ok (.getfield 208, 3) := by decide +kernel
theorem dX6_eventCount_10 : decode cX6_eventCount 10 = .ok (.ireturn, 1) := by decide +kernel
theorem dX6_eventKind_0 : decode cX6_eventKind 0 = .ok (.aload_n 0, 1) := by decide +kernel
theorem dX6_eventKind_1 : decode cX6_eventKind 1 = .ok (.iload_n 1, 1) := by decide +kernel
theorem dX6_eventKind_2 : decode cX6_eventKind 2 = .ok (.invokevirtual 211, 3) := by decide +kernel
theorem dX6_eventKind_5 : decode cX6_eventKind 5 = .ok (.aload_n 0, 1) := by decide +kernel
theorem dX6_eventKind_6 : decode cX6_eventKind 6 = .ok (.getfield 12, 3) := by decide +kernel
theorem dX6_eventKind_9 : decode cX6_eventKind 9 = .ok (.getfield 204, 3) := by decide +kernel
theorem dX6_eventKind_12 : decode cX6_eventKind 12 = .ok (.getfield 214, 3) := by decide +kernel
theorem dX6_eventKind_15 : decode cX6_eventKind 15 = .ok (.aload_n 0, 1) := by decide +kernel
theorem dX6_eventKind_16 : decode cX6_eventKind 16 = .ok (.getfield 12, 3) := by decide +kernel
theorem dX6_eventKind_19 : decode cX6_eventKind 19 = .ok (.getfield 204, 3) := by decide +kernel
theorem dX6_eventKind_22 : decode cX6_eventKind 22 = .ok (.iload_n 1, 1) := by decide +kernel
theorem dX6_eventKind_23 : decode cX6_eventKind 23 = .ok (.invokevirtual 218, 3) := by decide +kernel
theorem dX6_eventKind_26 : decode cX6_eventKind 26 = .ok (.caload, 1) := by decide +kernel
theorem dX6_eventKind_27 : decode cX6_eventKind 27 = .ok (.ireturn, 1) := by decide +kernel
theorem dX6_eventNumber_0 : decode cX6_eventNumber 0 = .ok (.aload_n 0, 1) := by decide +kernel
theorem dX6_eventNumber_1 : decode cX6_eventNumber 1 = .ok (.iload_n 1, 1) := by decide +kernel
theorem dX6_eventNumber_2 : decode cX6_eventNumber 2 = .ok (.invokevirtual 211, 3) := by decide +kernel
theorem dX6_eventNumber_5 : decode cX6_eventNumber 5 = .ok (.aload_n 0, 1) := by decide +kernel
theorem dX6_eventNumber_6 : decode cX6_eventNumber 6 = .ok (.getfield 12, 3) := by decide +kernel
theorem dX6_eventNumber_9 : decode cX6_eventNumber 9 = .ok (.getfield 204, 3) := by decide +kernel
theorem dX6_eventNumber_12 : decode cX6_eventNumber 12 = .ok (.getfield 221, 3) := by decide +kernel
theorem dX6_eventNumber_15 : decode cX6_eventNumber 15 = .ok (.aload_n 0, 1) := by decide +kernel
theorem dX6_eventNumber_16 : decode cX6_eventNumber 16 = .ok (.getfield 12, 3) := by decide +kernel
theorem dX6_eventNumber_19 : decode cX6_eventNumber 19 = .ok (.getfield 204, 3) := by decide +kernel
theorem dX6_eventNumber_22 : decode cX6_eventNumber 22 = .ok (.iload_n 1, 1) := by decide +kernel
theorem dX6_eventNumber_23 : decode cX6_eventNumber 23 = .ok (.invokevirtual 218, 3) := by decide +kernel
theorem dX6_eventNumber_26 : decode cX6_eventNumber 26 = .ok (.iaload, 1) := by decide +kernel
theorem dX6_eventNumber_27 : decode cX6_eventNumber 27 = .ok (.ireturn, 1) := by decide +kernel
theorem dX6_meanLevel_0 : decode cX6_meanLevel 0 = .ok (.aload_n 0, 1) := by decide +kernel
theorem dX6_meanLevel_1 : decode cX6_meanLevel 1 = .ok (.getfield 12, 3) := by decide +kernel
theorem dX6_meanLevel_4 : decode cX6_meanLevel 4 = .ok (.getfield 70, 3) := by decide +kernel
theorem dX6_meanLevel_7 : decode cX6_meanLevel 7 = .ok (.invokevirtual 112, 3) := by decide +kernel
theorem dX6_meanLevel_10 : decode cX6_meanLevel 10 = .ok (.i2f, 1) := by decide +kernel
theorem dX6_meanLevel_11 : decode cX6_meanLevel 11 = .ok (.ldc 227, 2) := by decide +kernel
theorem dX6_meanLevel_13 : decode cX6_meanLevel 13 = .ok (.fdiv, 1) := by decide +kernel
theorem dX6_meanLevel_14 : decode cX6_meanLevel 14 = .ok (.freturn, 1) := by decide +kernel
theorem dX6_isConsistent_0 : decode cX6_isConsistent 0 = .ok (.aload_n 0, 1) := by decide +kernel
theorem dX6_isConsistent_1 : decode cX6_isConsistent 1 = .ok (.getfield 12, 3) := by decide +kernel
theorem dX6_isConsistent_4 : decode cX6_isConsistent 4 = .ok (.getfield 70, 3) := by decide +kernel
theorem dX6_isConsistent_7 : decode cX6_isConsistent 7 = .ok (.invokevirtual 228, 3) := by decide +kernel
theorem dX6_isConsistent_10 : decode cX6_isConsistent 10 = .ok (.ifCond .eq 56, 3) := by decide +kernel
theorem dX6_isConsistent_13 : decode cX6_isConsistent 13 = .ok (.aload_n 0, 1) := by decide +kernel
theorem dX6_isConsistent_14 : decode cX6_isConsistent 14 = .ok (.getfield 12, 3) := by decide +kernel
theorem dX6_isConsistent_17 : decode cX6_isConsistent 17 = .ok (.getfield 70, 3) := by decide +kernel
theorem dX6_isConsistent_20 : decode cX6_isConsistent 20 = .ok (.invokevirtual 112, 3) := by decide +kernel
theorem dX6_isConsistent_23 : decode cX6_isConsistent 23 = .ok (.aload_n 0, 1) := by decide +kernel
theorem dX6_isConsistent_24 : decode cX6_isConsistent 24 = .ok (.getfield 12, 3) := by decide +kernel
theorem dX6_isConsistent_27 : decode cX6_isConsistent 27 = .ok (.getfield 70, 3) := by decide +kernel
theorem dX6_isConsistent_30 : decode cX6_isConsistent 30 = .ok (.invokevirtual 116, 3) := by decide +kernel
theorem dX6_isConsistent_33 : decode cX6_isConsistent 33 = .ok (.if_icmp .ne 33, 3) := by decide +kernel
theorem dX6_isConsistent_36 : decode cX6_isConsistent 36 = .ok (.aload_n 0, 1) := by decide +kernel
theorem dX6_isConsistent_37 : decode cX6_isConsistent 37 = .ok (.getfield 12, 3) := by decide +kernel
theorem dX6_isConsistent_40 : decode cX6_isConsistent 40 = .ok (.getfield 70, 3) := by decide +kernel
theorem dX6_isConsistent_43 : decode cX6_isConsistent 43 = .ok (.invokevirtual 232, 3) := by decide +kernel
theorem dX6_isConsistent_46 : decode cX6_isConsistent 46 = .ok (.ifCond .eq 20, 3) := by decide +kernel
theorem dX6_isConsistent_49 : decode cX6_isConsistent 49 = .ok (.aload_n 0, 1) := by decide +kernel
theorem dX6_isConsistent_50 : decode cX6_isConsistent 50 = .ok (.getfield 12, 3) := by decide +kernel
theorem dX6_isConsistent_53 : decode cX6_isConsistent 53 = .ok (.getfield 138, 3) := by decide +kernel
theorem dX6_isConsistent_56 : decode cX6_isConsistent 56 = .ok (.invokevirtual 235, 3) := by decide +kernel
theorem dX6_isConsistent_59 : decode cX6_isConsistent 59 = .ok (.ifCond .eq 7, 3) := by decide +kernel
theorem dX6_isConsistent_62 : decode cX6_isConsistent 62 = .ok (.iconst 1, 1) := by decide +kernel
theorem dX6_isConsistent_63 : decode cX6_isConsistent 63 = .ok (.goto 4, 3) := by decide +kernel
theorem dX6_isConsistent_66 : decode cX6_isConsistent 66 = .ok (.iconst 0, 1) := by decide +kernel
theorem dX6_isConsistent_67 : decode cX6_isConsistent 67 = .ok (.ireturn, 1) := by decide +kernel
theorem dX6_renderLevels_0 : decode cX6_renderLevels 0 = .ok (.aload_n 0, 1) := by decide +kernel
theorem dX6_renderLevels_1 : decode cX6_renderLevels 1 = .ok (.getfield 43, 3) := by decide +kernel
theorem dX6_renderLevels_4 : decode cX6_renderLevels 4 = .ok (.iconst 0, 1) := by decide +kernel
theorem dX6_renderLevels_5 : decode cX6_renderLevels 5 = .ok (.invokevirtual 238, 3) := by decide +kernel
theorem dX6_renderLevels_8 : decode cX6_renderLevels 8 = .ok (.iconst 0, 1) := by decide +kernel
theorem dX6_renderLevels_9 : decode cX6_renderLevels 9 = .ok (.istore_n 1, 1) := by decide +kernel
theorem dX6_renderLevels_10 : decode cX6_renderLevels 10 = .ok (.iload_n 1, 1) := by decide +kernel
theorem dX6_renderLevels_11 : decode cX6_renderLevels 11 = .ok (.iconst 5, 1) := by decide +kernel
theorem dX6_renderLevels_12 : decode cX6_renderLevels 12 = .ok (.if_icmp .ge 64, 3) := by decide +kernel
theorem dX6_renderLevels_15 : decode cX6_renderLevels 15 = .ok (.iload_n 1, 1) := by decide +kernel
theorem dX6_renderLevels_16 : decode cX6_renderLevels 16 = .ok (.ifCond .le 35, 3) := by decide +kernel
theorem dX6_renderLevels_19 : decode cX6_renderLevels 19 = .ok (.aload_n 0, 1) := by decide +kernel
theorem dX6_renderLevels_20 : decode cX6_renderLevels 20 = .ok (.getfield 43, 3) := by decide +kernel
theorem dX6_renderLevels_23 : decode cX6_renderLevels 23 = .ok (.aload_n 0, 1) := by decide +kernel
theorem dX6_renderLevels_24 : decode cX6_renderLevels 24 = .ok (.getfield 12, 3) := by decide +kernel
theorem dX6_renderLevels_27 : decode cX6_renderLevels 27 = .ok (.getfield 70, 3) := by decide +kernel
theorem dX6_renderLevels_30 : decode cX6_renderLevels 30 = .ok (.getfield 99, 3) := by decide +kernel
theorem dX6_renderLevels_33 : decode cX6_renderLevels 33 = .ok (.iload_n 1, 1) := by decide +kernel
theorem dX6_renderLevels_34 : decode cX6_renderLevels 34 = .ok (.iconst 1, 1) := by decide +kernel
theorem dX6_renderLevels_35 : decode cX6_renderLevels 35 = .ok (.isub, 1) := by decide +kernel
theorem dX6_renderLevels_36 : decode cX6_renderLevels 36 = .ok (.baload, 1) := by decide +kernel
theorem dX6_renderLevels_37 : decode cX6_renderLevels 37 = .ok (.ifCond .eq 8, 3) := by decide +kernel
theorem dX6_renderLevels_40 : decode cX6_renderLevels 40 = .ok (.bipush 47, 2) := by decide +kernel
theorem dX6_renderLevels_42 : decode cX6_renderLevels 42 = .ok (.goto 5, 3) := by decide +kernel
theorem dX6_renderLevels_45 : decode cX6_renderLevels 45 = .ok (.bipush 124, 2) := by decide +kernel
theorem dX6_renderLevels_47 : decode cX6_renderLevels 47 = .ok (.invokevirtual 241, 3) := by decide +kernel
theorem dX6_renderLevels_50 : decode cX6_renderLevels 50 = .ok (.pop, 1) := by decide +kernel
theorem dX6_renderLevels_51 : decode cX6_renderLevels 51 = .ok (.aload_n 0, 1) := by decide +kernel
theorem dX6_renderLevels_52 : decode cX6_renderLevels 52 = .ok (.getfield 43, 3) := by decide +kernel
theorem dX6_renderLevels_55 : decode cX6_renderLevels 55 = .ok (.aload_n 0, 1) := by decide +kernel
theorem dX6_renderLevels_56 : decode cX6_renderLevels 56 = .ok (.getfield 12, 3) := by decide +kernel
theorem dX6_renderLevels_59 : decode cX6_renderLevels 59 = .ok (.getfield 70, 3) := by decide +kernel
theorem dX6_renderLevels_62 : decode cX6_renderLevels 62 = .ok (.iload_n 1, 1) := by decide +kernel
theorem dX6_renderLevels_63 : decode cX6_renderLevels 63 = .ok (.invokevirtual 80, 3) := by decide +kernel
theorem dX6_renderLevels_66 : decode cX6_renderLevels 66 = .ok (.invokevirtual 245, 3) := by decide +kernel
theorem dX6_renderLevels_69 : decode cX6_renderLevels 69 = .ok (.pop, 1) := by decide +kernel
theorem dX6_renderLevels_70 : decode cX6_renderLevels 70 = .ok (.iinc 1 1, 3) := by decide +kernel
theorem dX6_renderLevels_73 : decode cX6_renderLevels 73 = .ok (.goto (-63), 3) := by decide +kernel
theorem dX6_renderLevels_76 : decode cX6_renderLevels 76 = .ok (.aload_n 0, 1) := by decide +kernel
theorem dX6_renderLevels_77 : decode cX6_renderLevels 77 = .ok (.getfield 43, 3) := by decide +kernel
theorem dX6_renderLevels_80 : decode cX6_renderLevels 80 = .ok (.invokevirtual 248, 3) := by decide +kernel
theorem dX6_renderLevels_83 : decode cX6_renderLevels 83 = .ok (.ireturn, 1) := by decide +kernel
theorem dX6_renderBoat_0 : decode cX6_renderBoat 0 = .ok (.aload_n 0, 1) := by decide +kernel
theorem dX6_renderBoat_1 : decode cX6_renderBoat 1 = .ok (.iload_n 1, 1) := by decide +kernel
theorem dX6_renderBoat_2 : decode cX6_renderBoat 2 = .ok (.invokevirtual 147, 3) := by decide +kernel
theorem dX6_renderBoat_5 : decode cX6_renderBoat 5 = .ok (.aload_n 0, 1) := by decide +kernel
theorem dX6_renderBoat_6 : decode cX6_renderBoat 6 = .ok (.getfield 43, 3) := by decide +kernel
theorem dX6_renderBoat_9 : decode cX6_renderBoat 9 = .ok (.iconst 0, 1) := by decide +kernel
theorem dX6_renderBoat_10 : decode cX6_renderBoat 10 = .ok (.invokevirtual 238, 3) := by decide +kernel
theorem dX6_renderBoat_13 : decode cX6_renderBoat 13 = .ok (.aload_n 0, 1) := by decide +kernel
theorem dX6_renderBoat_14 : decode cX6_renderBoat 14 = .ok (.getfield 43, 3) := by decide +kernel
theorem dX6_renderBoat_17 : decode cX6_renderBoat 17 = .ok (.aload_n 0, 1) := by decide +kernel
theorem dX6_renderBoat_18 : decode cX6_renderBoat 18 = .ok (.getfield 12, 3) := by decide +kernel
theorem dX6_renderBoat_21 : decode cX6_renderBoat 21 = .ok (.getfield 138, 3) := by decide +kernel
theorem dX6_renderBoat_24 : decode cX6_renderBoat 24 = .ok (.iload_n 1, 1) := by decide +kernel
theorem dX6_renderBoat_25 : decode cX6_renderBoat 25 = .ok (.invokevirtual 150, 3) := by decide +kernel
theorem dX6_renderBoat_28 : decode cX6_renderBoat 28 = .ok (.invokevirtual 241, 3) := by decide +kernel
theorem dX6_renderBoat_31 : decode cX6_renderBoat 31 = .ok (.pop, 1) := by decide +kernel
theorem dX6_renderBoat_32 : decode cX6_renderBoat 32 = .ok (.aload_n 0, 1) := by decide +kernel
theorem dX6_renderBoat_33 : decode cX6_renderBoat 33 = .ok (.getfield 43, 3) := by decide +kernel
theorem dX6_renderBoat_36 : decode cX6_renderBoat 36 = .ok (.aload_n 0, 1) := by decide +kernel
theorem dX6_renderBoat_37 : decode cX6_renderBoat 37 = .ok (.getfield 12, 3) := by decide +kernel
theorem dX6_renderBoat_40 : decode cX6_renderBoat 40 = .ok (.getfield 138, 3) := by decide +kernel
theorem dX6_renderBoat_43 : decode cX6_renderBoat 43 = .ok (.getfield 154, 3) := by decide +kernel
theorem dX6_renderBoat_46 : decode cX6_renderBoat 46 = .ok (.iload_n 1, 1) := by decide +kernel
theorem dX6_renderBoat_47 : decode cX6_renderBoat 47 = .ok (.iaload, 1) := by decide +kernel
theorem dX6_renderBoat_48 : decode cX6_renderBoat 48 = .ok (.invokevirtual 245, 3) := by decide +kernel
theorem dX6_renderBoat_51 : decode cX6_renderBoat 51 = .ok (.pop, 1) := by decide +kernel
theorem dX6_renderBoat_52 : decode cX6_renderBoat 52 = .ok (.aload_n 0, 1) := by decide +kernel
theorem dX6_renderBoat_53 : decode cX6_renderBoat 53 = .ok (.getfield 43, 3) := by decide +kernel
theorem dX6_renderBoat_56 : decode cX6_renderBoat 56 = .ok (.aload_n 0, 1) := by decide +kernel
theorem dX6_renderBoat_57 : decode cX6_renderBoat 57 = .ok (.getfield 12, 3) := by decide +kernel
theorem dX6_renderBoat_60 : decode cX6_renderBoat 60 = .ok (.getfield 138, 3) := by decide +kernel
theorem dX6_renderBoat_63 : decode cX6_renderBoat 63 = .ok (.getfield 157, 3) := by decide +kernel
theorem dX6_renderBoat_66 : decode cX6_renderBoat 66 = .ok (.iload_n 1, 1) := by decide +kernel
theorem dX6_renderBoat_67 : decode cX6_renderBoat 67 = .ok (.baload, 1) := by decide +kernel
theorem dX6_renderBoat_68 : decode cX6_renderBoat 68 = .ok (.ifCond .eq 8, 3) := by decide +kernel
theorem dX6_renderBoat_71 : decode cX6_renderBoat 71 = .ok (.bipush 118, 2) := by decide +kernel
theorem dX6_renderBoat_73 : decode cX6_renderBoat 73 = .ok (.goto 5, 3) := by decide +kernel
theorem dX6_renderBoat_76 : decode cX6_renderBoat 76 = .ok (.bipush 94, 2) := by decide +kernel
theorem dX6_renderBoat_78 : decode cX6_renderBoat 78 = .ok (.invokevirtual 241, 3) := by decide +kernel
theorem dX6_renderBoat_81 : decode cX6_renderBoat 81 = .ok (.pop, 1) := by decide +kernel
theorem dX6_renderBoat_82 : decode cX6_renderBoat 82 = .ok (.aload_n 0, 1) := by decide +kernel
theorem dX6_renderBoat_83 : decode cX6_renderBoat 83 = .ok (.getfield 43, 3) := by decide +kernel
theorem dX6_renderBoat_86 : decode cX6_renderBoat 86 = .ok (.aload_n 0, 1) := by decide +kernel
theorem dX6_renderBoat_87 : decode cX6_renderBoat 87 = .ok (.getfield 12, 3) := by decide +kernel
theorem dX6_renderBoat_90 : decode cX6_renderBoat 90 = .ok (.getfield 138, 3) := by decide +kernel
theorem dX6_renderBoat_93 : decode cX6_renderBoat 93 = .ok (.getfield 160, 3) := by decide +kernel
theorem dX6_renderBoat_96 : decode cX6_renderBoat 96 = .ok (.iload_n 1, 1) := by decide +kernel
theorem dX6_renderBoat_97 : decode cX6_renderBoat 97 = .ok (.iaload, 1) := by decide +kernel
theorem dX6_renderBoat_98 : decode cX6_renderBoat 98 = .ok (.invokevirtual 245, 3) := by decide +kernel
theorem dX6_renderBoat_101 : decode cX6_renderBoat 101 = .ok (.pop, 1) := by decide +kernel
theorem dX6_renderBoat_102 : decode cX6_renderBoat 102 = .ok (.aload_n 0, 1) := by decide +kernel
theorem dX6_renderBoat_103 : decode cX6_renderBoat 103 = .ok (.getfield 43, 3) := by decide +kernel
theorem dX6_renderBoat_106 : decode cX6_renderBoat 106 = .ok (.invokevirtual 248, 3) := by decide +kernel
theorem dX6_renderBoat_109 : decode cX6_renderBoat 109 = .ok (.ireturn, 1) := by decide +kernel
theorem dX6_outputAt_0 : decode cX6_outputAt 0 = .ok (.iload_n 1, 1) := by decide +kernel
theorem dX6_outputAt_1 : decode cX6_outputAt 1 = .ok (.ifCond .lt 14, 3) := by decide +kernel
theorem dX6_outputAt_4 : decode cX6_outputAt 4 = .ok (.iload_n 1, 1) := by decide +kernel
theorem dX6_outputAt_5 : decode cX6_outputAt 5 = .ok (.aload_n 0, 1) := by decide +kernel
theorem dX6_outputAt_6 : decode cX6_outputAt 6 = .ok (.getfield 43, 3) := by decide +kernel
theorem dX6_outputAt_9 : decode cX6_outputAt 9 = .ok (.invokevirtual 248, 3) := by decide +kernel
theorem dX6_outputAt_12 : decode cX6_outputAt 12 = .ok (.if_icmp .lt 13, 3) := by decide +kernel
theorem dX6_outputAt_15 : decode cX6_outputAt 15 = .ok (.new 251, 3) := by decide +kernel
theorem dX6_outputAt_18 : decode cX6_outputAt 18 = .ok (.dup, 1) := by decide +kernel
theorem dX6_outputAt_19 : decode cX6_outputAt 19 = .ok (.ldc 253, 2) := by decide +kernel
theorem dX6_outputAt_21 : decode cX6_outputAt 21 = .ok (.invokespecial 255, 3) := by decide +kernel
theorem dX6_outputAt_24 : decode cX6_outputAt 24 = .ok (.athrow, 1) := by decide +kernel
theorem dX6_outputAt_25 : decode cX6_outputAt 25 = .ok (.aload_n 0, 1) := by decide +kernel
theorem dX6_outputAt_26 : decode cX6_outputAt 26 = .ok (.getfield 43, 3) := by decide +kernel
theorem dX6_outputAt_29 : decode cX6_outputAt 29 = .ok (.iload_n 1, 1) := by decide +kernel
theorem dX6_outputAt_30 : decode cX6_outputAt 30 = .ok (.invokevirtual 256, 3) := by decide +kernel
theorem dX6_outputAt_33 : decode cX6_outputAt 33 = .ok (.ireturn, 1) := by decide +kernel
theorem dX6_beginChange_0 : decode cX6_beginChange 0 = .ok (.aload_n 0, 1) := by decide +kernel
theorem dX6_beginChange_1 : decode cX6_beginChange 1 = .ok (.getfield 12, 3) := by decide +kernel
theorem dX6_beginChange_4 : decode cX6_beginChange 4 = .ok (.iload_n 1, 1) := by decide +kernel
theorem dX6_beginChange_5 : decode cX6_beginChange 5 = .ok (.iload_n 2, 1) := by decide +kernel
theorem dX6_beginChange_6 : decode cX6_beginChange 6 = .ok (.iload_n 3, 1) := by decide +kernel
theorem dX6_beginChange_7 : decode cX6_beginChange 7 = .ok (.invokevirtual 288, 3) := by decide +kernel
theorem dX6_beginChange_10 : decode cX6_beginChange 10 = .ok (.invokestatic 312, 3) := by decide +kernel
theorem dX6_beginChange_13 : decode cX6_beginChange 13 = .ok (.aload_n 0, 1) := by decide +kernel
theorem dX6_beginChange_14 : decode cX6_beginChange 14 = .ok (.getfield 29, 3) := by decide +kernel
theorem dX6_beginChange_17 : decode cX6_beginChange 17 = .ok (.aload_n 0, 1) := by decide +kernel
theorem dX6_beginChange_18 : decode cX6_beginChange 18 = .ok (.getfield 12, 3) := by decide +kernel
theorem dX6_beginChange_21 : decode cX6_beginChange 21 = .ok (.invokevirtual 297, 3) := by decide +kernel
theorem dX6_beginChange_24 : decode cX6_beginChange 24 = .ok (.return_, 1) := by decide +kernel
theorem dX6_refuse_0 : decode cX6_refuse 0 = .ok (.iload_n 0, 1) := by decide +kernel
theorem dX6_refuse_1 : decode cX6_refuse 1 = .ok (.iconst 1, 1) := by decide +kernel
theorem dX6_refuse_2 : decode cX6_refuse 2 = .ok (.if_icmp .ne 14, 3) := by decide +kernel
theorem dX6_refuse_5 : decode cX6_refuse 5 = .ok (.new 251, 3) := by decide +kernel
theorem dX6_refuse_8 : decode cX6_refuse 8 = .ok (.dup, 1) := by decide +kernel
theorem dX6_refuse_9 : decode cX6_refuse 9 = .ok (.ldc_w 315, 3) := by decide +kernel
theorem dX6_refuse_12 : decode cX6_refuse 12 = .ok (.invokespecial 255, 3) := by decide +kernel
theorem dX6_refuse_15 : decode cX6_refuse 15 = .ok (.athrow, 1) := by decide +kernel
theorem dX6_refuse_16 : decode cX6_refuse 16 = .ok (.iload_n 0, 1) := by decide +kernel
theorem dX6_refuse_17 : decode cX6_refuse 17 = .ok (.iconst 2, 1) := by decide +kernel
theorem dX6_refuse_18 : decode cX6_refuse 18 = .ok (.if_icmp .ne 14, 3) := by decide +kernel
theorem dX6_refuse_21 : decode cX6_refuse 21 = .ok (.new 176, 3) := by decide +kernel
theorem dX6_refuse_24 : decode cX6_refuse 24 = .ok (.dup, 1) := by decide +kernel
theorem dX6_refuse_25 : decode cX6_refuse 25 = .ok (.ldc_w 317, 3) := by decide +kernel
theorem dX6_refuse_28 : decode cX6_refuse 28 = .ok (.invokespecial 180, 3) := by decide +kernel
theorem dX6_refuse_31 : decode cX6_refuse 31 = .ok (.athrow, 1) := by decide +kernel
theorem dX6_refuse_32 : decode cX6_refuse 32 = .ok (.iload_n 0, 1) := by decide +kernel
theorem dX6_refuse_33 : decode cX6_refuse 33 = .ok (.iconst 3, 1) := by decide +kernel
theorem dX6_refuse_34 : decode cX6_refuse 34 = .ok (.if_icmp .ne 14, 3) := by decide +kernel
theorem dX6_refuse_37 : decode cX6_refuse 37 = .ok (.new 263, 3) := by decide +kernel
theorem dX6_refuse_40 : decode cX6_refuse 40 = .ok (.dup, 1) := by decide +kernel
theorem dX6_refuse_41 : decode cX6_refuse 41 = .ok (.ldc_w 319, 3) := by decide +kernel
theorem dX6_refuse_44 : decode cX6_refuse 44 = .ok (.invokespecial 267, 3) := by decide +kernel
theorem dX6_refuse_47 : decode cX6_refuse 47 = .ok (.athrow, 1) := by decide +kernel
theorem dX6_refuse_48 : decode cX6_refuse 48 = .ok (.iload_n 0, 1) := by decide +kernel
theorem dX6_refuse_49 : decode cX6_refuse 49 = .ok (.iconst 4, 1) := by decide +kernel
theorem dX6_refuse_50 : decode cX6_refuse 50 = .ok (.if_icmp .ne 14, 3) := by decide +kernel
theorem dX6_refuse_53 : decode cX6_refuse 53 = .ok (.new 321, 3) := by decide +kernel
theorem dX6_refuse_56 : decode cX6_refuse 56 = .ok (.dup, 1) := by decide +kernel
theorem dX6_refuse_57 : decode cX6_refuse 57 = .ok (.ldc_w 323, 3) := by decide +kernel
theorem dX6_refuse_60 : decode cX6_refuse 60 = .ok (.invokespecial 325, 3) := by decide +kernel
theorem dX6_refuse_63 : decode cX6_refuse 63 = .ok (.athrow, 1) := by decide +kernel
theorem dX6_refuse_64 : decode cX6_refuse 64 = .ok (.return_, 1) := by decide +kernel
theorem dX6_needBasin_0 : decode cX6_needBasin 0 = .ok (.iload_n 0, 1) := by decide +kernel
theorem dX6_needBasin_1 : decode cX6_needBasin 1 = .ok (.ifCond .lt 8, 3) := by decide +kernel
theorem dX6_needBasin_4 : decode cX6_needBasin 4 = .ok (.iload_n 0, 1) := by decide +kernel
theorem dX6_needBasin_5 : decode cX6_needBasin 5 = .ok (.iconst 5, 1) := by decide +kernel
theorem dX6_needBasin_6 : decode cX6_needBasin 6 = .ok (.if_icmp .lt 14, 3) := by decide +kernel
theorem dX6_needBasin_9 : decode cX6_needBasin 9 = .ok (.new 251, 3) := by decide +kernel
theorem dX6_needBasin_12 : decode cX6_needBasin 12 = .ok (.dup, 1) := by decide +kernel
theorem dX6_needBasin_13 : decode cX6_needBasin 13 = .ok (.ldc_w 326, 3) := by decide +kernel
theorem dX6_needBasin_16 : decode cX6_needBasin 16 = .ok (.invokespecial 255, 3) := by decide +kernel
theorem dX6_needBasin_19 : decode cX6_needBasin 19 = .ok (.athrow, 1) := by decide +kernel
theorem dX6_needBasin_20 : decode cX6_needBasin 20 = .ok (.return_, 1) := by decide +kernel
theorem dX6_needGate_0 : decode cX6_needGate 0 = .ok (.iload_n 0, 1) := by decide +kernel
theorem dX6_needGate_1 : decode cX6_needGate 1 = .ok (.invokestatic 328, 3) := by decide +kernel
theorem dX6_needGate_4 : decode cX6_needGate 4 = .ok (.ifCond .ne 14, 3) := by decide +kernel
theorem dX6_needGate_7 : decode cX6_needGate 7 = .ok (.new 251, 3) := by decide +kernel
theorem dX6_needGate_10 : decode cX6_needGate 10 = .ok (.dup, 1) := by decide +kernel
theorem dX6_needGate_11 : decode cX6_needGate 11 = .ok (.ldc_w 315, 3) := by decide +kernel
theorem dX6_needGate_14 : decode cX6_needGate 14 = .ok (.invokespecial 255, 3) := by decide +kernel
theorem dX6_needGate_17 : decode cX6_needGate 17 = .ok (.athrow, 1) := by decide +kernel
theorem dX6_needGate_18 : decode cX6_needGate 18 = .ok (.return_, 1) := by decide +kernel
theorem dX6_needBoat_0 : decode cX6_needBoat 0 = .ok (.iload_n 1, 1) := by decide +kernel
theorem dX6_needBoat_1 : decode cX6_needBoat 1 = .ok (.ifCond .lt 17, 3) := by decide +kernel
theorem dX6_needBoat_4 : decode cX6_needBoat 4 = .ok (.iload_n 1, 1) := by decide +kernel
theorem dX6_needBoat_5 : decode cX6_needBoat 5 = .ok (.aload_n 0, 1) := by decide +kernel
theorem dX6_needBoat_6 : decode cX6_needBoat 6 = .ok (.getfield 12, 3) := by decide +kernel
theorem dX6_needBoat_9 : decode cX6_needBoat 9 = .ok (.getfield 138, 3) := by decide +kernel
theorem dX6_needBoat_12 : decode cX6_needBoat 12 = .ok (.getfield 142, 3) := by decide +kernel
theorem dX6_needBoat_15 : decode cX6_needBoat 15 = .ok (.if_icmp .lt 14, 3) := by decide +kernel
theorem dX6_needBoat_18 : decode cX6_needBoat 18 = .ok (.new 251, 3) := by decide +kernel
theorem dX6_needBoat_21 : decode cX6_needBoat 21 = .ok (.dup, 1) := by decide +kernel
theorem dX6_needBoat_22 : decode cX6_needBoat 22 = .ok (.ldc_w 331, 3) := by decide +kernel
theorem dX6_needBoat_25 : decode cX6_needBoat 25 = .ok (.invokespecial 255, 3) := by decide +kernel
theorem dX6_needBoat_28 : decode cX6_needBoat 28 = .ok (.athrow, 1) := by decide +kernel
theorem dX6_needBoat_29 : decode cX6_needBoat 29 = .ok (.return_, 1) := by decide +kernel
theorem dX6_needEvent_0 : decode cX6_needEvent 0 = .ok (.iload_n 1, 1) := by decide +kernel
theorem dX6_needEvent_1 : decode cX6_needEvent 1 = .ok (.ifCond .lt 17, 3) := by decide +kernel
theorem dX6_needEvent_4 : decode cX6_needEvent 4 = .ok (.iload_n 1, 1) := by decide +kernel
theorem dX6_needEvent_5 : decode cX6_needEvent 5 = .ok (.aload_n 0, 1) := by decide +kernel
theorem dX6_needEvent_6 : decode cX6_needEvent 6 = .ok (.getfield 12, 3) := by decide +kernel
theorem dX6_needEvent_9 : decode cX6_needEvent 9 = .ok (.getfield 204, 3) := by decide +kernel
theorem dX6_needEvent_12 : decode cX6_needEvent 12 = .ok (.getfield 208, 3) := by decide +kernel
theorem dX6_needEvent_15 : decode cX6_needEvent 15 = .ok (.if_icmp .lt 14, 3) := by decide +kernel
theorem dX6_needEvent_18 : decode cX6_needEvent 18 = .ok (.new 131, 3) := by decide +kernel
theorem dX6_needEvent_21 : decode cX6_needEvent 21 = .ok (.dup, 1) := by decide +kernel
theorem dX6_needEvent_22 : decode cX6_needEvent 22 = .ok (.ldc_w 333, 3) := by decide +kernel
theorem dX6_needEvent_25 : decode cX6_needEvent 25 = .ok (.invokespecial 135, 3) := by decide +kernel
theorem dX6_needEvent_28 : decode cX6_needEvent 28 = .ok (.athrow, 1) := by decide +kernel
theorem dX6_needEvent_29 : decode cX6_needEvent 29 = .ok (.return_, 1) := by decide +kernel
theorem dX6_isGate_0 : decode cX6_isGate 0 = .ok (.iload_n 0, 1) := by decide +kernel
theorem dX6_isGate_1 : decode cX6_isGate 1 = .ok (.ifCond .lt 12, 3) := by decide +kernel
theorem dX6_isGate_4 : decode cX6_isGate 4 = .ok (.iload_n 0, 1) := by decide +kernel
theorem dX6_isGate_5 : decode cX6_isGate 5 = .ok (.iconst 4, 1) := by decide +kernel
theorem dX6_isGate_6 : decode cX6_isGate 6 = .ok (.if_icmp .ge 7, 3) := by decide +kernel
theorem dX6_isGate_9 : decode cX6_isGate 9 = .ok (.iconst 1, 1) := by decide +kernel
theorem dX6_isGate_10 : decode cX6_isGate 10 = .ok (.goto 4, 3) := by decide +kernel
theorem dX6_isGate_13 : decode cX6_isGate 13 = .ok (.iconst 0, 1) := by decide +kernel
theorem dX6_isGate_14 : decode cX6_isGate 14 = .ok (.ireturn, 1) := by decide +kernel
theorem dX6_areaOf_0 : decode cX6_areaOf 0 = .ok (.iload_n 0, 1) := by decide +kernel
theorem dX6_areaOf_1 : decode cX6_areaOf 1 = .ok (.ifCond .eq 8, 3) := by decide +kernel
theorem dX6_areaOf_4 : decode cX6_areaOf 4 = .ok (.iload_n 0, 1) := by decide +kernel
theorem dX6_areaOf_5 : decode cX6_areaOf 5 = .ok (.iconst 4, 1) := by decide +kernel
theorem dX6_areaOf_6 : decode cX6_areaOf 6 = .ok (.if_icmp .ne 8, 3) := by decide +kernel
theorem dX6_areaOf_9 : decode cX6_areaOf 9 = .ok (.bipush 10, 2) := by decide +kernel
theorem dX6_areaOf_11 : decode cX6_areaOf 11 = .ok (.goto 5, 3) := by decide +kernel
theorem dX6_areaOf_14 : decode cX6_areaOf 14 = .ok (.bipush 6, 2) := by decide +kernel
theorem dX6_areaOf_16 : decode cX6_areaOf 16 = .ok (.ireturn, 1) := by decide +kernel
theorem dX6_colourNumber_0 : decode cX6_colourNumber 0 = .ok (.iconst 0, 1) := by decide +kernel
theorem dX6_colourNumber_1 : decode cX6_colourNumber 1 = .ok (.istore_n 1, 1) := by decide +kernel
theorem dX6_colourNumber_2 : decode cX6_colourNumber 2 = .ok (.iload_n 1, 1) := by decide +kernel
theorem dX6_colourNumber_3 : decode cX6_colourNumber 3 = .ok (.iconst 3, 1) := by decide +kernel
theorem dX6_colourNumber_4 : decode cX6_colourNumber 4 = .ok (.if_icmp .ge 20, 3) := by decide +kernel
theorem dX6_colourNumber_7 : decode cX6_colourNumber 7 = .ok (.getstatic 335, 3) := by decide +kernel
theorem dX6_colourNumber_10 : decode cX6_colourNumber 10 = .ok (.iload_n 1, 1) := by decide +kernel
theorem dX6_colourNumber_11 : decode cX6_colourNumber 11 = .ok (.caload, 1) := by decide +kernel
theorem dX6_colourNumber_12 : decode cX6_colourNumber 12 = .ok (.iload_n 0, 1) := by decide +kernel
theorem dX6_colourNumber_13 : decode cX6_colourNumber 13 = .ok (.if_icmp .ne 5, 3) := by decide +kernel
theorem dX6_colourNumber_16 : decode cX6_colourNumber 16 = .ok (.iload_n 1, 1) := by decide +kernel
theorem dX6_colourNumber_17 : decode cX6_colourNumber 17 = .ok (.ireturn, 1) := by decide +kernel
theorem dX6_colourNumber_18 : decode cX6_colourNumber 18 = .ok (.iinc 1 1, 3) := by decide +kernel
theorem dX6_colourNumber_21 : decode cX6_colourNumber 21 = .ok (.goto (-19), 3) := by decide +kernel
theorem dX6_colourNumber_24 : decode cX6_colourNumber 24 = .ok (.iconst (-1), 1) := by decide +kernel
theorem dX6_colourNumber_25 : decode cX6_colourNumber 25 = .ok (.ireturn, 1) := by decide +kernel
