theorem dX0_init_0 : decode cX0_init 0 = .ok (.aload_n 0, 1) := by decide +kernel
theorem dX0_init_1 : decode cX0_init 1 = .ok (.invokespecial 3, 3) := by decide +kernel
theorem dX0_init_4 : decode cX0_init 4 = .ok (.aload_n 0, 1) := by decide +kernel
theorem dX0_init_5 : decode cX0_init 5 = .ok (.bipush 8, 2) := by decide +kernel
theorem dX0_init_7 : decode cX0_init 7 = .ok (.newarray .char, 2) := by decide +kernel
theorem dX0_init_9 : decode cX0_init 9 = .ok (.putfield 9, 3) := by decide +kernel
theorem dX0_init_12 : decode cX0_init 12 = .ok (.aload_n 0, 1) := by decide +kernel
theorem dX0_init_13 : decode cX0_init 13 = .ok (.bipush 8, 2) := by decide +kernel
theorem dX0_init_15 : decode cX0_init 15 = .ok (.newarray .int, 2) := by decide +kernel
theorem dX0_init_17 : decode cX0_init 17 = .ok (.putfield 15, 3) := by decide +kernel
theorem dX0_init_20 : decode cX0_init 20 = .ok (.aload_n 0, 1) := by decide +kernel
theorem dX0_init_21 : decode cX0_init 21 = .ok (.iconst 0, 1) := by decide +kernel
theorem dX0_init_22 : decode cX0_init 22 = .ok (.putfield 19, 3) := by decide +kernel
theorem dX0_init_25 : decode cX0_init 25 = .ok (.aload_n 0, 1) := by decide +kernel
theorem dX0_init_26 : decode cX0_init 26 = .ok (.iconst 0, 1) := by decide +kernel
theorem dX0_init_27 : decode cX0_init 27 = .ok (.putfield 23, 3) := by decide +kernel
theorem dX0_init_30 : decode cX0_init 30 = .ok (.return_, 1) := by decide +kernel
theorem dX0_copyEvents_0 : decode cX0_copyEvents 0 = .ok (.iconst 0, 1) := by decide +kernel
theorem dX0_copyEvents_1 : decode cX0_copyEvents 1 = .ok (.istore_n 2, 1) := by decide +kernel
theorem dX0_copyEvents_2 : decode cX0_copyEvents 2 = .ok (.iload_n 2, 1) := by decide +kernel
theorem dX0_copyEvents_3 : decode cX0_copyEvents 3 = .ok (.bipush 8, 2) := by decide +kernel
theorem dX0_copyEvents_5 : decode cX0_copyEvents 5 = .ok (.if_icmp .ge 33, 3) := by decide +kernel
theorem dX0_copyEvents_8 : decode cX0_copyEvents 8 = .ok (.aload_n 0, 1) := by decide +kernel
theorem dX0_copyEvents_9 : decode cX0_copyEvents 9 = .ok (.getfield 9, 3) := by decide +kernel
theorem dX0_copyEvents_12 : decode cX0_copyEvents 12 = .ok (.iload_n 2, 1) := by decide +kernel
theorem dX0_copyEvents_13 : decode cX0_copyEvents 13 = .ok (.aload_n 1, 1) := by decide +kernel
theorem dX0_copyEvents_14 : decode cX0_copyEvents 14 = .ok (.getfield 9, 3) := by decide +kernel
theorem dX0_copyEvents_17 : decode cX0_copyEvents 17 = .ok (.iload_n 2, 1) := by decide +kernel
theorem dX0_copyEvents_18 : decode cX0_copyEvents 18 = .ok (.caload, 1) := by decide +kernel
theorem dX0_copyEvents_19 : decode cX0_copyEvents 19 = .ok (.castore, 1) := by decide +kernel
theorem dX0_copyEvents_20 : decode cX0_copyEvents 20 = .ok (.aload_n 0, 1) := by decide +kernel
theorem dX0_copyEvents_21 : decode cX0_copyEvents 21 = .ok (.getfield 15, 3) := by decide +kernel
theorem dX0_copyEvents_24 : decode cX0_copyEvents 24 = .ok (.iload_n 2, 1) := by decide +kernel
theorem dX0_copyEvents_25 : decode cX0_copyEvents 25 = .ok (.aload_n 1, 1) := by decide +kernel
theorem dX0_copyEvents_26 : decode cX0_copyEvents 26 = .ok (.getfield 15, 3) := by decide +kernel
theorem dX0_copyEvents_29 : decode cX0_copyEvents 29 = .ok (.iload_n 2, 1) := by decide +kernel
theorem dX0_copyEvents_30 : decode cX0_copyEvents 30 = .ok (.iaload, 1) := by decide +kernel
theorem dX0_copyEvents_31 : decode cX0_copyEvents 31 = .ok (.iastore, 1) := by decide +kernel
theorem dX0_copyEvents_32 : decode cX0_copyEvents 32 = .ok (.iinc 2 1, 3) := by decide +kernel
theorem dX0_copyEvents_35 : decode cX0_copyEvents 35 = .ok (.goto (-33), 3) := by decide +kernel
theorem dX0_copyEvents_38 : decode cX0_copyEvents 38 = .ok (.aload_n 0, 1) := by decide +kernel
theorem dX0_copyEvents_39 : decode cX0_copyEvents 39 = .ok (.aload_n 1, 1) := by decide +kernel
theorem dX0_copyEvents_40 : decode cX0_copyEvents 40 = .ok (.getfield 19, 3) := by decide +kernel
theorem dX0_copyEvents_43 : decode cX0_copyEvents 43 = .ok (.putfield 19, 3) := by decide +kernel
theorem dX0_copyEvents_46 : decode cX0_copyEvents 46 = .ok (.aload_n 0, 1) := by decide +kernel
theorem dX0_copyEvents_47 : decode cX0_copyEvents 47 = .ok (.aload_n 1, 1) := by decide +kernel
theorem dX0_copyEvents_48 : decode cX0_copyEvents 48 = .ok (.getfield 23, 3) := by decide +kernel
theorem dX0_copyEvents_51 : decode cX0_copyEvents 51 = .ok (.putfield 23, 3) := by decide +kernel
theorem dX0_copyEvents_54 : decode cX0_copyEvents 54 = .ok (.return_, 1) := by decide +kernel
theorem dX0_note_0 : decode cX0_note 0 = .ok (.aload_n 0, 1) := by decide +kernel
theorem dX0_note_1 : decode cX0_note 1 = .ok (.getfield 9, 3) := by decide +kernel
theorem dX0_note_4 : decode cX0_note 4 = .ok (.aload_n 0, 1) := by decide +kernel
theorem dX0_note_5 : decode cX0_note 5 = .ok (.getfield 19, 3) := by decide +kernel
theorem dX0_note_8 : decode cX0_note 8 = .ok (.iload_n 1, 1) := by decide +kernel
theorem dX0_note_9 : decode cX0_note 9 = .ok (.castore, 1) := by decide +kernel
theorem dX0_note_10 : decode cX0_note 10 = .ok (.aload_n 0, 1) := by decide +kernel
theorem dX0_note_11 : decode cX0_note 11 = .ok (.getfield 15, 3) := by decide +kernel
theorem dX0_note_14 : decode cX0_note 14 = .ok (.aload_n 0, 1) := by decide +kernel
theorem dX0_note_15 : decode cX0_note 15 = .ok (.getfield 19, 3) := by decide +kernel
theorem dX0_note_18 : decode cX0_note 18 = .ok (.iload_n 2, 1) := by decide +kernel
theorem dX0_note_19 : decode cX0_note 19 = .ok (.iastore, 1) := by decide +kernel
theorem dX0_note_20 : decode cX0_note 20 = .ok (.aload_n 0, 1) := by decide +kernel
theorem dX0_note_21 : decode cX0_note 21 = .ok (.aload_n 0, 1) := by decide +kernel
theorem dX0_note_22 : decode cX0_note 22 = .ok (.getfield 19, 3) := by decide +kernel
theorem dX0_note_25 : decode cX0_note 25 = .ok (.iconst 1, 1) := by decide +kernel
theorem dX0_note_26 : decode cX0_note 26 = .ok (.iadd, 1) := by decide +kernel
theorem dX0_note_27 : decode cX0_note 27 = .ok (.bipush 8, 2) := by decide +kernel
theorem dX0_note_29 : decode cX0_note 29 = .ok (.irem, 1) := by decide +kernel
theorem dX0_note_30 : decode cX0_note 30 = .ok (.putfield 19, 3) := by decide +kernel
theorem dX0_note_33 : decode cX0_note 33 = .ok (.aload_n 0, 1) := by decide +kernel
theorem dX0_note_34 : decode cX0_note 34 = .ok (.aload_n 0, 1) := by decide +kernel
theorem dX0_note_35 : decode cX0_note 35 = .ok (.getfield 23, 3) := by decide +kernel
theorem dX0_note_38 : decode cX0_note 38 = .ok (.iconst 1, 1) := by decide +kernel
theorem dX0_note_39 : decode cX0_note 39 = .ok (.iadd, 1) := by decide +kernel
theorem dX0_note_40 : decode cX0_note 40 = .ok (.bipush 8, 2) := by decide +kernel
theorem dX0_note_42 : decode cX0_note 42 = .ok (.invokestatic 26, 3) := by decide +kernel
theorem dX0_note_45 : decode cX0_note 45 = .ok (.putfield 23, 3) := by decide +kernel
theorem dX0_note_48 : decode cX0_note 48 = .ok (.return_, 1) := by decide +kernel
theorem dX0_placeOf_0 : decode cX0_placeOf 0 = .ok (.aload_n 0, 1) := by decide +kernel
theorem dX0_placeOf_1 : decode cX0_placeOf 1 = .ok (.getfield 19, 3) := by decide +kernel
theorem dX0_placeOf_4 : decode cX0_placeOf 4 = .ok (.iconst 1, 1) := by decide +kernel
theorem dX0_placeOf_5 : decode cX0_placeOf 5 = .ok (.isub, 1) := by decide +kernel
theorem dX0_placeOf_6 : decode cX0_placeOf 6 = .ok (.iload_n 1, 1) := by decide +kernel
theorem dX0_placeOf_7 : decode cX0_placeOf 7 = .ok (.isub, 1) := by decide +kernel
theorem dX0_placeOf_8 : decode cX0_placeOf 8 = .ok (.bipush 8, 2) := by decide +kernel
theorem dX0_placeOf_10 : decode cX0_placeOf 10 = .ok (.invokestatic 32, 3) := by decide +kernel
theorem dX0_placeOf_13 : decode cX0_placeOf 13 = .ok (.ireturn, 1) := by decide +kernel
theorem dX1_init_0 : decode cX1_init 0 = .ok (.aload_n 0, 1) := by decide +kernel
theorem dX1_init_1 : decode cX1_init 1 = .ok (.invokespecial 3, 3) := by decide +kernel
theorem dX1_init_4 : decode cX1_init 4 = .ok (.aload_n 0, 1) := by decide +kernel
theorem dX1_init_5 : decode cX1_init 5 = .ok (.iconst 0, 1) := by decide +kernel
theorem dX1_init_6 : decode cX1_init 6 = .ok (.putfield 9, 3) := by decide +kernel
theorem dX1_init_9 : decode cX1_init 9 = .ok (.aload_n 0, 1) := by decide +kernel
theorem dX1_init_10 : decode cX1_init 10 = .ok (.iconst 0, 1) := by decide +kernel
theorem dX1_init_11 : decode cX1_init 11 = .ok (.putfield 15, 3) := by decide +kernel
theorem dX1_init_14 : decode cX1_init 14 = .ok (.aload_n 0, 1) := by decide +kernel
theorem dX1_init_15 : decode cX1_init 15 = .ok (.bipush 8, 2) := by decide +kernel
theorem dX1_init_17 : decode cX1_init 17 = .ok (.newarray .int, 2) := by decide +kernel
theorem dX1_init_19 : decode cX1_init 19 = .ok (.putfield 18, 3) := by decide +kernel
theorem dX1_init_22 : decode cX1_init 22 = .ok (.aload_n 0, 1) := by decide +kernel
theorem dX1_init_23 : decode cX1_init 23 = .ok (.bipush 8, 2) := by decide +kernel
theorem dX1_init_25 : decode cX1_init 25 = .ok (.newarray .int, 2) := by decide +kernel
theorem dX1_init_27 : decode cX1_init 27 = .ok (.putfield 22, 3) := by decide +kernel
theorem dX1_init_30 : decode cX1_init 30 = .ok (.aload_n 0, 1) := by decide +kernel
theorem dX1_init_31 : decode cX1_init 31 = .ok (.bipush 8, 2) := by decide +kernel
theorem dX1_init_33 : decode cX1_init 33 = .ok (.newarray .boolean, 2) := by decide +kernel
theorem dX1_init_35 : decode cX1_init 35 = .ok (.putfield 25, 3) := by decide +kernel
theorem dX1_init_38 : decode cX1_init 38 = .ok (.aload_n 0, 1) := by decide +kernel
theorem dX1_init_39 : decode cX1_init 39 = .ok (.bipush 8, 2) := by decide +kernel
theorem dX1_init_41 : decode cX1_init 41 = .ok (.newarray .int, 2) := by decide +kernel
theorem dX1_init_43 : decode cX1_init 43 = .ok (.putfield 29, 3) := by decide +kernel
theorem dX1_init_46 : decode cX1_init 46 = .ok (.aload_n 0, 1) := by decide +kernel
theorem dX1_init_47 : decode cX1_init 47 = .ok (.bipush 8, 2) := by decide +kernel
theorem dX1_init_49 : decode cX1_init 49 = .ok (.newarray .int, 2) := by decide +kernel
theorem dX1_init_51 : decode cX1_init 51 = .ok (.putfield 32, 3) := by decide +kernel
theorem dX1_init_54 : decode cX1_init 54 = .ok (.aload_n 0, 1) := by decide +kernel
theorem dX1_init_55 : decode cX1_init 55 = .ok (.iconst 3, 1) := by decide +kernel
theorem dX1_init_56 : decode cX1_init 56 = .ok (.newarray .int, 2) := by decide +kernel
theorem dX1_init_58 : decode cX1_init 58 = .ok (.putfield 35, 3) := by decide +kernel
theorem dX1_init_61 : decode cX1_init 61 = .ok (.return_, 1) := by decide +kernel
theorem dX1_copyFleet_0 : decode cX1_copyFleet 0 = .ok (.aload_n 0, 1) := by decide +kernel
theorem dX1_copyFleet_1 : decode cX1_copyFleet 1 = .ok (.aload_n 1, 1) := by decide +kernel
theorem dX1_copyFleet_2 : decode cX1_copyFleet 2 = .ok (.getfield 9, 3) := by decide +kernel
theorem dX1_copyFleet_5 : decode cX1_copyFleet 5 = .ok (.putfield 9, 3) := by decide +kernel
theorem dX1_copyFleet_8 : decode cX1_copyFleet 8 = .ok (.aload_n 0, 1) := by decide +kernel
theorem dX1_copyFleet_9 : decode cX1_copyFleet 9 = .ok (.aload_n 1, 1) := by decide +kernel
theorem dX1_copyFleet_10 : decode cX1_copyFleet 10 = .ok (.getfield 15, 3) := by decide +kernel
theorem dX1_copyFleet_13 : decode cX1_copyFleet 13 = .ok (.putfield 15, 3) := by decide +kernel
theorem dX1_copyFleet_16 : decode cX1_copyFleet 16 = .ok (.iconst 0, 1) := by decide +kernel
theorem dX1_copyFleet_17 : decode cX1_copyFleet 17 = .ok (.istore_n 2, 1) := by decide +kernel
theorem dX1_copyFleet_18 : decode cX1_copyFleet 18 = .ok (.iload_n 2, 1) := by decide +kernel
theorem dX1_copyFleet_19 : decode cX1_copyFleet 19 = .ok (.bipush 8, 2) := by decide +kernel
theorem dX1_copyFleet_21 : decode cX1_copyFleet 21 = .ok (.if_icmp .ge 16, 3) := by decide +kernel
theorem dX1_copyFleet_24 : decode cX1_copyFleet 24 = .ok (.aload_n 0, 1) := by decide +kernel
theorem dX1_copyFleet_25 : decode cX1_copyFleet 25 = .ok (.aload_n 1, 1) := by decide +kernel
theorem dX1_copyFleet_26 : decode cX1_copyFleet 26 = .ok (.iload_n 2, 1) := by decide +kernel
theorem dX1_copyFleet_27 : decode cX1_copyFleet 27 = .ok (.iload_n 2, 1) := by decide +kernel
theorem dX1_copyFleet_28 : decode cX1_copyFleet 28 = .ok (.invokevirtual 38, 3) := by decide +kernel
theorem dX1_copyFleet_31 : decode cX1_copyFleet 31 = .ok (.iinc 2 1, 3) := by decide +kernel
theorem dX1_copyFleet_34 : decode cX1_copyFleet 34 = .ok (.goto (-16), 3) := by decide +kernel
theorem dX1_copyFleet_37 : decode cX1_copyFleet 37 = .ok (.iconst 0, 1) := by decide +kernel
theorem dX1_copyFleet_38 : decode cX1_copyFleet 38 = .ok (.istore_n 2, 1) := by decide +kernel
theorem dX1_copyFleet_39 : decode cX1_copyFleet 39 = .ok (.iload_n 2, 1) := by decide +kernel
theorem dX1_copyFleet_40 : decode cX1_copyFleet 40 = .ok (.iconst 3, 1) := by decide +kernel
theorem dX1_copyFleet_41 : decode cX1_copyFleet 41 = .ok (.if_icmp .ge 21, 3) := by decide +kernel
theorem dX1_copyFleet_44 : decode cX1_copyFleet 44 = .ok (.aload_n 0, 1) := by decide +kernel
theorem dX1_copyFleet_45 : decode cX1_copyFleet 45 = .ok (.getfield 35, 3) := by decide +kernel
theorem dX1_copyFleet_48 : decode cX1_copyFleet 48 = .ok (.iload_n 2, 1) := by decide +kernel
theorem dX1_copyFleet_49 : decode cX1_copyFleet 49 = .ok (.aload_n 1, 1) := by decide +kernel
theorem dX1_copyFleet_50 : decode cX1_copyFleet 50 = .ok (.getfield 35, 3) := by decide +kernel
theorem dX1_copyFleet_53 : decode cX1_copyFleet 53 = .ok (.iload_n 2, 1) := by decide +kernel
theorem dX1_copyFleet_54 : decode cX1_copyFleet 54 = .ok (.iaload, 1) := by decide +kernel
theorem dX1_copyFleet_55 : decode cX1_copyFleet 55 = .ok (.iastore, 1) := by decide +kernel
theorem dX1_copyFleet_56 : decode cX1_copyFleet 56 = .ok (.iinc 2 1, 3) := by decide +kernel
theorem dX1_copyFleet_59 : decode cX1_copyFleet 59 = .ok (.goto (-20), 3) := by decide +kernel
theorem dX1_copyFleet_62 : decode cX1_copyFleet 62 = .ok (.return_, 1) := by decide +kernel
theorem dX1_put_0 : decode cX1_put 0 = .ok (.aload_n 0, 1) := by decide +kernel
theorem dX1_put_1 : decode cX1_put 1 = .ok (.getfield 9, 3) := by decide +kernel
theorem dX1_put_4 : decode cX1_put 4 = .ok (.bipush 8, 2) := by decide +kernel
theorem dX1_put_6 : decode cX1_put 6 = .ok (.if_icmp .lt 5, 3) := by decide +kernel
theorem dX1_put_9 : decode cX1_put 9 = .ok (.iconst (-1), 1) := by decide +kernel
theorem dX1_put_10 : decode cX1_put 10 = .ok (.ireturn, 1) := by decide +kernel
theorem dX1_put_11 : decode cX1_put 11 = .ok (.aload_n 0, 1) := by decide +kernel
theorem dX1_put_12 : decode cX1_put 12 = .ok (.getfield 18, 3) := by decide +kernel
theorem dX1_put_15 : decode cX1_put 15 = .ok (.aload_n 0, 1) := by decide +kernel
theorem dX1_put_16 : decode cX1_put 16 = .ok (.getfield 9, 3) := by decide +kernel
theorem dX1_put_19 : decode cX1_put 19 = .ok (.iload_n 1, 1) := by decide +kernel
theorem dX1_put_20 : decode cX1_put 20 = .ok (.iastore, 1) := by decide +kernel
theorem dX1_put_21 : decode cX1_put 21 = .ok (.aload_n 0, 1) := by decide +kernel
theorem dX1_put_22 : decode cX1_put 22 = .ok (.getfield 22, 3) := by decide +kernel
theorem dX1_put_25 : decode cX1_put 25 = .ok (.aload_n 0, 1) := by decide +kernel
theorem dX1_put_26 : decode cX1_put 26 = .ok (.getfield 9, 3) := by decide +kernel
theorem dX1_put_29 : decode cX1_put 29 = .ok (.iload_n 2, 1) := by decide +kernel
theorem dX1_put_30 : decode cX1_put 30 = .ok (.iastore, 1) := by decide +kernel
theorem dX1_put_31 : decode cX1_put 31 = .ok (.aload_n 0, 1) := by decide +kernel
theorem dX1_put_32 : decode cX1_put 32 = .ok (.getfield 25, 3) := by decide +kernel
theorem dX1_put_35 : decode cX1_put 35 = .ok (.aload_n 0, 1) := by decide +kernel
theorem dX1_put_36 : decode cX1_put 36 = .ok (.getfield 9, 3) := by decide +kernel
theorem dX1_put_39 : decode cX1_put 39 = .ok (.iload_n 3, 1) := by decide +kernel
theorem dX1_put_40 : decode cX1_put 40 = .ok (.bastore, 1) := by decide +kernel
theorem dX1_put_41 : decode cX1_put 41 = .ok (.aload_n 0, 1) := by decide +kernel
theorem dX1_put_42 : decode cX1_put 42 = .ok (.getfield 29, 3) := by decide +kernel
theorem dX1_put_45 : decode cX1_put 45 = .ok (.aload_n 0, 1) := by decide +kernel
theorem dX1_put_46 : decode cX1_put 46 = .ok (.getfield 9, 3) := by decide +kernel
theorem dX1_put_49 : decode cX1_put 49 = .ok (.iload_n 3, 1) := by decide +kernel
theorem dX1_put_50 : decode cX1_put 50 = .ok (.ifCond .eq 7, 3) := by decide +kernel
theorem dX1_put_53 : decode cX1_put 53 = .ok (.iconst 0, 1) := by decide +kernel
theorem dX1_put_54 : decode cX1_put 54 = .ok (.goto 4, 3) := by decide +kernel
theorem dX1_put_57 : decode cX1_put 57 = .ok (.iconst 4, 1) := by decide +kernel
theorem dX1_put_58 : decode cX1_put 58 = .ok (.iastore, 1) := by decide +kernel
theorem dX1_put_59 : decode cX1_put 59 = .ok (.aload_n 0, 1) := by decide +kernel
theorem dX1_put_60 : decode cX1_put 60 = .ok (.getfield 32, 3) := by decide +kernel
theorem dX1_put_63 : decode cX1_put 63 = .ok (.aload_n 0, 1) := by decide +kernel
theorem dX1_put_64 : decode cX1_put 64 = .ok (.getfield 9, 3) := by decide +kernel
theorem dX1_put_67 : decode cX1_put 67 = .ok (.aload_n 0, 1) := by decide +kernel
theorem dX1_put_68 : decode cX1_put 68 = .ok (.getfield 15, 3) := by decide +kernel
theorem dX1_put_71 : decode cX1_put 71 = .ok (.iastore, 1) := by decide +kernel
theorem dX1_put_72 : decode cX1_put 72 = .ok (.aload_n 0, 1) := by decide +kernel
theorem dX1_put_73 : decode cX1_put 73 = .ok (.dup, 1) := by decide +kernel
theorem dX1_put_74 : decode cX1_put 74 = .ok (.getfield 15, 3) := by decide +kernel
theorem dX1_put_77 : decode cX1_put 77 = .ok (.iconst 1, 1) := by decide +kernel
theorem dX1_put_78 : decode cX1_put 78 = .ok (.iadd, 1) := by decide +kernel
theorem dX1_put_79 : decode cX1_put 79 = .ok (.putfield 15, 3) := by decide +kernel
theorem dX1_put_82 : decode cX1_put 82 = .ok (.aload_n 0, 1) := by decide +kernel
theorem dX1_put_83 : decode cX1_put 83 = .ok (.dup, 1) := by decide +kernel
theorem dX1_put_84 : decode cX1_put 84 = .ok (.getfield 9, 3) := by decide +kernel
theorem dX1_put_87 : decode cX1_put 87 = .ok (.iconst 1, 1) := by decide +kernel
theorem dX1_put_88 : decode cX1_put 88 = .ok (.iadd, 1) := by decide +kernel
theorem dX1_put_89 : decode cX1_put 89 = .ok (.putfield 9, 3) := by decide +kernel
theorem dX1_put_92 : decode cX1_put 92 = .ok (.aload_n 0, 1) := by decide +kernel
theorem dX1_put_93 : decode cX1_put 93 = .ok (.getfield 9, 3) := by decide +kernel
theorem dX1_put_96 : decode cX1_put 96 = .ok (.iconst 1, 1) := by decide +kernel
theorem dX1_put_97 : decode cX1_put 97 = .ok (.isub, 1) := by decide +kernel
theorem dX1_put_98 : decode cX1_put 98 = .ok (.ireturn, 1) := by decide +kernel
theorem dX1_signOf_0 : decode cX1_signOf 0 = .ok (.getstatic 42, 3) := by decide +kernel
theorem dX1_signOf_3 : decode cX1_signOf 3 = .ok (.aload_n 0, 1) := by decide +kernel
theorem dX1_signOf_4 : decode cX1_signOf 4 = .ok (.getfield 18, 3) := by decide +kernel
theorem dX1_signOf_7 : decode cX1_signOf 7 = .ok (.iload_n 1, 1) := by decide +kernel
theorem dX1_signOf_8 : decode cX1_signOf 8 = .ok (.iaload, 1) := by decide +kernel
theorem dX1_signOf_9 : decode cX1_signOf 9 = .ok (.caload, 1) := by decide +kernel
theorem dX1_signOf_10 : decode cX1_signOf 10 = .ok (.ireturn, 1) := by decide +kernel
theorem dX1_countIn_0 : decode cX1_countIn 0 = .ok (.iconst 0, 1) := by decide +kernel
theorem dX1_countIn_1 : decode cX1_countIn 1 = .ok (.istore_n 2, 1) := by decide +kernel
theorem dX1_countIn_2 : decode cX1_countIn 2 = .ok (.iconst 0, 1) := by decide +kernel
theorem dX1_countIn_3 : decode cX1_countIn 3 = .ok (.istore_n 3, 1) := by decide +kernel
theorem dX1_countIn_4 : decode cX1_countIn 4 = .ok (.iload_n 3, 1) := by decide +kernel
theorem dX1_countIn_5 : decode cX1_countIn 5 = .ok (.aload_n 0, 1) := by decide +kernel
theorem dX1_countIn_6 : decode cX1_countIn 6 = .ok (.getfield 9, 3) := by decide +kernel
theorem dX1_countIn_9 : decode cX1_countIn 9 = .ok (.if_icmp .ge 27, 3) := by decide +kernel
theorem dX1_countIn_12 : decode cX1_countIn 12 = .ok (.iload_n 2, 1) := by decide +kernel
theorem dX1_countIn_13 : decode cX1_countIn 13 = .ok (.aload_n 0, 1) := by decide +kernel
theorem dX1_countIn_14 : decode cX1_countIn 14 = .ok (.getfield 29, 3) := by decide +kernel
theorem dX1_countIn_17 : decode cX1_countIn 17 = .ok (.iload_n 3, 1) := by decide +kernel
theorem dX1_countIn_18 : decode cX1_countIn 18 = .ok (.iaload, 1) := by decide +kernel
theorem dX1_countIn_19 : decode cX1_countIn 19 = .ok (.iload_n 1, 1) := by decide +kernel
theorem dX1_countIn_20 : decode cX1_countIn 20 = .ok (.if_icmp .ne 7, 3) := by decide +kernel
theorem dX1_countIn_23 : decode cX1_countIn 23 = .ok (.iconst 1, 1) := by decide +kernel
theorem dX1_countIn_24 : decode cX1_countIn 24 = .ok (.goto 4, 3) := by decide +kernel
theorem dX1_countIn_27 : decode cX1_countIn 27 = .ok (.iconst 0, 1) := by decide +kernel
theorem dX1_countIn_28 : decode cX1_countIn 28 = .ok (.iadd, 1) := by decide +kernel
theorem dX1_countIn_29 : decode cX1_countIn 29 = .ok (.istore_n 2, 1) := by decide +kernel
theorem dX1_countIn_30 : decode cX1_countIn 30 = .ok (.iinc 3 1, 3) := by decide +kernel
theorem dX1_countIn_33 : decode cX1_countIn 33 = .ok (.goto (-29), 3) := by decide +kernel
theorem dX1_countIn_36 : decode cX1_countIn 36 = .ok (.iload_n 2, 1) := by decide +kernel
theorem dX1_countIn_37 : decode cX1_countIn 37 = .ok (.ireturn, 1) := by decide +kernel
theorem dX1_hasRoom_0 : decode cX1_hasRoom 0 = .ok (.iload_n 1, 1) := by decide +kernel
theorem dX1_hasRoom_1 : decode cX1_hasRoom 1 = .ok (.ifCond .eq 17, 3) := by decide +kernel
theorem dX1_hasRoom_4 : decode cX1_hasRoom 4 = .ok (.iload_n 1, 1) := by decide +kernel
theorem dX1_hasRoom_5 : decode cX1_hasRoom 5 = .ok (.iconst 4, 1) := by decide +kernel
theorem dX1_hasRoom_6 : decode cX1_hasRoom 6 = .ok (.if_icmp .eq 12, 3) := by decide +kernel
theorem dX1_hasRoom_9 : decode cX1_hasRoom 9 = .ok (.aload_n 0, 1) := by decide +kernel
theorem dX1_hasRoom_10 : decode cX1_hasRoom 10 = .ok (.iload_n 1, 1) := by decide +kernel
theorem dX1_hasRoom_11 : decode cX1_hasRoom 11 = .ok (.invokevirtual 46, 3) := by decide +kernel
theorem dX1_hasRoom_14 : decode cX1_hasRoom 14 = .ok (.iconst 2, 1) := by decide +kernel
theorem dX1_hasRoom_15 : decode cX1_hasRoom 15 = .ok (.if_icmp .ge 7, 3) := by decide +kernel
theorem dX1_hasRoom_18 : decode cX1_hasRoom 18 = .ok (.iconst 1, 1) := by decide +kernel
theorem dX1_hasRoom_19 : decode cX1_hasRoom 19 = .ok (.goto 4, 3) := by decide +kernel
theorem dX1_hasRoom_22 : decode cX1_hasRoom 22 = .ok (.iconst 0, 1) := by decide +kernel
theorem dX1_hasRoom_23 : decode cX1_hasRoom 23 = .ok (.ireturn, 1) := by decide +kernel
theorem dX1_isWithinRoom_0 : decode cX1_isWithinRoom 0 = .ok (.iconst 1, 1) := by decide +kernel
theorem dX1_isWithinRoom_1 : decode cX1_isWithinRoom 1 = .ok (.istore_n 1, 1) := by decide +kernel
theorem dX1_isWithinRoom_2 : decode cX1_isWithinRoom 2 = .ok (.iload_n 1, 1) := by decide +kernel
theorem dX1_isWithinRoom_3 : decode cX1_isWithinRoom 3 = .ok (.iconst 4, 1) := by decide +kernel
theorem dX1_isWithinRoom_4 : decode cX1_isWithinRoom 4 = .ok (.if_icmp .ge 20, 3) := by decide +kernel
theorem dX1_isWithinRoom_7 : decode cX1_isWithinRoom 7 = .ok (.aload_n 0, 1) := by decide +kernel
theorem dX1_isWithinRoom_8 : decode cX1_isWithinRoom 8 = .ok (.iload_n 1, 1) := by decide +kernel
theorem dX1_isWithinRoom_9 : decode cX1_isWithinRoom 9 = .ok (.invokevirtual 46, 3) := by decide +kernel
theorem dX1_isWithinRoom_12 : decode cX1_isWithinRoom 12 = .ok (.iconst 2, 1) := by decide +kernel
theorem dX1_isWithinRoom_13 : decode cX1_isWithinRoom 13 = .ok (.if_icmp .le 5, 3) := by decide +kernel
theorem dX1_isWithinRoom_16 : decode cX1_isWithinRoom 16 = .ok (.iconst 0, 1) := by decide +kernel
theorem dX1_isWithinRoom_17 : decode cX1_isWithinRoom 17 = .ok (.ireturn, 1) := by decide +kernel
theorem dX1_isWithinRoom_18 : decode cX1_isWithinRoom 18 = .ok (.iinc 1 1, 3) := by decide +kernel
theorem dX1_isWithinRoom_21 : decode cX1_isWithinRoom 21 = .ok (.goto (-19), 3) := by decide +kernel
theorem dX1_isWithinRoom_24 : decode cX1_isWithinRoom 24 = .ok (.iconst 1, 1) := by decide +kernel
theorem dX1_isWithinRoom_25 : decode cX1_isWithinRoom 25 = .ok (.ireturn, 1) := by decide +kernel
theorem dX1_rankOfBoat_0 : decode cX1_rankOfBoat 0 = .ok (.iconst 0, 1) := by decide +kernel
theorem dX1_rankOfBoat_1 : decode cX1_rankOfBoat 1 = .ok (.istore_n 2, 1) := by decide +kernel
theorem dX1_rankOfBoat_2 : decode cX1_rankOfBoat 2 = .ok (.iconst 0, 1) := by decide +kernel
theorem dX1_rankOfBoat_3 : decode cX1_rankOfBoat 3 = .ok (.istore_n 3, 1) := by decide +kernel
theorem dX1_rankOfBoat_4 : decode cX1_rankOfBoat 4 = .ok (.iload_n 3, 1) := by decide +kernel
theorem dX1_rankOfBoat_5 : decode cX1_rankOfBoat 5 = .ok (.aload_n 0, 1) := by decide +kernel
theorem dX1_rankOfBoat_6 : decode cX1_rankOfBoat 6 = .ok (.getfield 9, 3) := by decide +kernel
theorem dX1_rankOfBoat_9 : decode cX1_rankOfBoat 9 = .ok (.if_icmp .ge 59, 3) := by decide +kernel
theorem dX1_rankOfBoat_12 : decode cX1_rankOfBoat 12 = .ok (.aload_n 0, 1) := by decide +kernel
theorem dX1_rankOfBoat_13 : decode cX1_rankOfBoat 13 = .ok (.getfield 18, 3) := by decide +kernel
theorem dX1_rankOfBoat_16 : decode cX1_rankOfBoat 16 = .ok (.iload_n 3, 1) := by decide +kernel
theorem dX1_rankOfBoat_17 : decode cX1_rankOfBoat 17 = .ok (.iaload, 1) := by decide +kernel
theorem dX1_rankOfBoat_18 : decode cX1_rankOfBoat 18 = .ok (.aload_n 0, 1) := by decide +kernel
theorem dX1_rankOfBoat_19 : decode cX1_rankOfBoat 19 = .ok (.getfield 18, 3) := by decide +kernel
theorem dX1_rankOfBoat_22 : decode cX1_rankOfBoat 22 = .ok (.iload_n 1, 1) := by decide +kernel
theorem dX1_rankOfBoat_23 : decode cX1_rankOfBoat 23 = .ok (.iaload, 1) := by decide +kernel
theorem dX1_rankOfBoat_24 : decode cX1_rankOfBoat 24 = .ok (.if_icmp .ne 7, 3) := by decide +kernel
theorem dX1_rankOfBoat_27 : decode cX1_rankOfBoat 27 = .ok (.iconst 1, 1) := by decide +kernel
theorem dX1_rankOfBoat_28 : decode cX1_rankOfBoat 28 = .ok (.goto 4, 3) := by decide +kernel
theorem dX1_rankOfBoat_31 : decode cX1_rankOfBoat 31 = .ok (.iconst 0, 1) := by decide +kernel
theorem dX1_rankOfBoat_32 : decode cX1_rankOfBoat 32 = .ok (.istore 4, 2) := by decide +kernel
theorem dX1_rankOfBoat_34 : decode cX1_rankOfBoat 34 = .ok (.aload_n 0, 1) := by decide +kernel
theorem dX1_rankOfBoat_35 : decode cX1_rankOfBoat 35 = .ok (.getfield 18, 3) := by decide +kernel
theorem dX1_rankOfBoat_38 : decode cX1_rankOfBoat 38 = .ok (.iload_n 3, 1) := by decide +kernel
theorem dX1_rankOfBoat_39 : decode cX1_rankOfBoat 39 = .ok (.iaload, 1) := by decide +kernel
theorem dX1_rankOfBoat_40 : decode cX1_rankOfBoat 40 = .ok (.aload_n 0, 1) := by decide +kernel
theorem dX1_rankOfBoat_41 : decode cX1_rankOfBoat 41 = .ok (.getfield 18, 3) := by decide +kernel
theorem dX1_rankOfBoat_44 : decode cX1_rankOfBoat 44 = .ok (.iload_n 1, 1) := by decide +kernel
theorem dX1_rankOfBoat_45 : decode cX1_rankOfBoat 45 = .ok (.iaload, 1) := by decide +kernel
theorem dX1_rankOfBoat_46 : decode cX1_rankOfBoat 46 = .ok (.if_icmp .lt 13, 3) := by decide +kernel
theorem dX1_rankOfBoat_49 : decode cX1_rankOfBoat 49 = .ok (.iload 4, 2) := by decide +kernel
theorem dX1_rankOfBoat_51 : decode cX1_rankOfBoat 51 = .ok (.ifCond .eq 11, 3) := by decide +kernel
theorem dX1_rankOfBoat_54 : decode cX1_rankOfBoat 54 = .ok (.iload_n 3, 1) := by decide +kernel
theorem dX1_rankOfBoat_55 : decode cX1_rankOfBoat 55 = .ok (.iload_n 1, 1) := by decide +kernel
theorem dX1_rankOfBoat_56 : decode cX1_rankOfBoat 56 = .ok (.if_icmp .ge 6, 3) := by decide +kernel
theorem dX1_rankOfBoat_59 : decode cX1_rankOfBoat 59 = .ok (.iinc 2 1, 3) := by decide +kernel
theorem dX1_rankOfBoat_62 : decode cX1_rankOfBoat 62 = .ok (.iinc 3 1, 3) := by decide +kernel
theorem dX1_rankOfBoat_65 : decode cX1_rankOfBoat 65 = .ok (.goto (-61), 3) := by decide +kernel
theorem dX1_rankOfBoat_68 : decode cX1_rankOfBoat 68 = .ok (.iload_n 2, 1) := by decide +kernel
theorem dX1_rankOfBoat_69 : decode cX1_rankOfBoat 69 = .ok (.ireturn, 1) := by decide +kernel
theorem dX1_hasSerial_0 : decode cX1_hasSerial 0 = .ok (.iconst 0, 1) := by decide +kernel
theorem dX1_hasSerial_1 : decode cX1_hasSerial 1 = .ok (.istore_n 2, 1) := by decide +kernel
theorem dX1_hasSerial_2 : decode cX1_hasSerial 2 = .ok (.iload_n 2, 1) := by decide +kernel
theorem dX1_hasSerial_3 : decode cX1_hasSerial 3 = .ok (.aload_n 0, 1) := by decide +kernel
theorem dX1_hasSerial_4 : decode cX1_hasSerial 4 = .ok (.getfield 9, 3) := by decide +kernel
theorem dX1_hasSerial_7 : decode cX1_hasSerial 7 = .ok (.if_icmp .ge 21, 3) := by decide +kernel
theorem dX1_hasSerial_10 : decode cX1_hasSerial 10 = .ok (.aload_n 0, 1) := by decide +kernel
theorem dX1_hasSerial_11 : decode cX1_hasSerial 11 = .ok (.getfield 32, 3) := by decide +kernel
theorem dX1_hasSerial_14 : decode cX1_hasSerial 14 = .ok (.iload_n 2, 1) := by decide +kernel
theorem dX1_hasSerial_15 : decode cX1_hasSerial 15 = .ok (.iaload, 1) := by decide +kernel
theorem dX1_hasSerial_16 : decode cX1_hasSerial 16 = .ok (.iload_n 1, 1) := by decide +kernel
theorem dX1_hasSerial_17 : decode cX1_hasSerial 17 = .ok (.if_icmp .ne 5, 3) := by decide +kernel
theorem dX1_hasSerial_20 : decode cX1_hasSerial 20 = .ok (.iconst 1, 1) := by decide +kernel
theorem dX1_hasSerial_21 : decode cX1_hasSerial 21 = .ok (.ireturn, 1) := by decide +kernel
theorem dX1_hasSerial_22 : decode cX1_hasSerial 22 = .ok (.iinc 2 1, 3) := by decide +kernel
theorem dX1_hasSerial_25 : decode cX1_hasSerial 25 = .ok (.goto (-23), 3) := by decide +kernel
theorem dX1_hasSerial_28 : decode cX1_hasSerial 28 = .ok (.iconst 0, 1) := by decide +kernel
theorem dX1_hasSerial_29 : decode cX1_hasSerial 29 = .ok (.ireturn, 1) := by decide +kernel
theorem dX1_gateAhead_0 : decode cX1_gateAhead 0 = .ok (.aload_n 0, 1) := by decide +kernel
theorem dX1_gateAhead_1 : decode cX1_gateAhead 1 = .ok (.getfield 25, 3) := by decide +kernel
theorem dX1_gateAhead_4 : decode cX1_gateAhead 4 = .ok (.iload_n 1, 1) := by decide +kernel
theorem dX1_gateAhead_5 : decode cX1_gateAhead 5 = .ok (.baload, 1) := by decide +kernel
theorem dX1_gateAhead_6 : decode cX1_gateAhead 6 = .ok (.ifCond .eq 12, 3) := by decide +kernel
theorem dX1_gateAhead_9 : decode cX1_gateAhead 9 = .ok (.aload_n 0, 1) := by decide +kernel
theorem dX1_gateAhead_10 : decode cX1_gateAhead 10 = .ok (.getfield 29, 3) := by decide +kernel
theorem dX1_gateAhead_13 : decode cX1_gateAhead 13 = .ok (.iload_n 1, 1) := by decide +kernel
theorem dX1_gateAhead_14 : decode cX1_gateAhead 14 = .ok (.iaload, 1) := by decide +kernel
theorem dX1_gateAhead_15 : decode cX1_gateAhead 15 = .ok (.goto 11, 3) := by decide +kernel
theorem dX1_gateAhead_18 : decode cX1_gateAhead 18 = .ok (.aload_n 0, 1) := by decide +kernel
theorem dX1_gateAhead_19 : decode cX1_gateAhead 19 = .ok (.getfield 29, 3) := by decide +kernel
theorem dX1_gateAhead_22 : decode cX1_gateAhead 22 = .ok (.iload_n 1, 1) := by decide +kernel
theorem dX1_gateAhead_23 : decode cX1_gateAhead 23 = .ok (.iaload, 1) := by decide +kernel
theorem dX1_gateAhead_24 : decode cX1_gateAhead 24 = .ok (.iconst 1, 1) := by decide +kernel
theorem dX1_gateAhead_25 : decode cX1_gateAhead 25 = .ok (.isub, 1) := by decide +kernel
theorem dX1_gateAhead_26 : decode cX1_gateAhead 26 = .ok (.ireturn, 1) := by decide +kernel
theorem dX1_basinAhead_0 : decode cX1_basinAhead 0 = .ok (.aload_n 0, 1) := by decide +kernel
theorem dX1_basinAhead_1 : decode cX1_basinAhead 1 = .ok (.getfield 25, 3) := by decide +kernel
theorem dX1_basinAhead_4 : decode cX1_basinAhead 4 = .ok (.iload_n 1, 1) := by decide +kernel
theorem dX1_basinAhead_5 : decode cX1_basinAhead 5 = .ok (.baload, 1) := by decide +kernel
theorem dX1_basinAhead_6 : decode cX1_basinAhead 6 = .ok (.ifCond .eq 14, 3) := by decide +kernel
theorem dX1_basinAhead_9 : decode cX1_basinAhead 9 = .ok (.aload_n 0, 1) := by decide +kernel
theorem dX1_basinAhead_10 : decode cX1_basinAhead 10 = .ok (.getfield 29, 3) := by decide +kernel
theorem dX1_basinAhead_13 : decode cX1_basinAhead 13 = .ok (.iload_n 1, 1) := by decide +kernel
theorem dX1_basinAhead_14 : decode cX1_basinAhead 14 = .ok (.iaload, 1) := by decide +kernel
theorem dX1_basinAhead_15 : decode cX1_basinAhead 15 = .ok (.iconst 1, 1) := by decide +kernel
theorem dX1_basinAhead_16 : decode cX1_basinAhead 16 = .ok (.iadd, 1) := by decide +kernel
theorem dX1_basinAhead_17 : decode cX1_basinAhead 17 = .ok (.goto 11, 3) := by decide +kernel
theorem dX1_basinAhead_20 : decode cX1_basinAhead 20 = .ok (.aload_n 0, 1) := by decide +kernel
theorem dX1_basinAhead_21 : decode cX1_basinAhead 21 = .ok (.getfield 29, 3) := by decide +kernel
theorem dX1_basinAhead_24 : decode cX1_basinAhead 24 = .ok (.iload_n 1, 1) := by decide +kernel
theorem dX1_basinAhead_25 : decode cX1_basinAhead 25 = .ok (.iaload, 1) := by decide +kernel
theorem dX1_basinAhead_26 : decode cX1_basinAhead 26 = .ok (.iconst 1, 1) := by decide +kernel
theorem dX1_basinAhead_27 : decode cX1_basinAhead 27 = .ok (.isub, 1) := by decide +kernel
theorem dX1_basinAhead_28 : decode cX1_basinAhead 28 = .ok (.ireturn, 1) := by decide +kernel
theorem dX1_hasArrived_0 : decode cX1_hasArrived 0 = .ok (.aload_n 0, 1) := by decide +kernel
theorem dX1_hasArrived_1 : decode cX1_hasArrived 1 = .ok (.getfield 29, 3) := by decide +kernel
theorem dX1_hasArrived_4 : decode cX1_hasArrived 4 = .ok (.iload_n 1, 1) := by decide +kernel
theorem dX1_hasArrived_5 : decode cX1_hasArrived 5 = .ok (.iaload, 1) := by decide +kernel
theorem dX1_hasArrived_6 : decode cX1_hasArrived 6 = .ok (.aload_n 0, 1) := by decide +kernel
theorem dX1_hasArrived_7 : decode cX1_hasArrived 7 = .ok (.getfield 25, 3) := by decide +kernel
theorem dX1_hasArrived_10 : decode cX1_hasArrived 10 = .ok (.iload_n 1, 1) := by decide +kernel
theorem dX1_hasArrived_11 : decode cX1_hasArrived 11 = .ok (.baload, 1) := by decide +kernel
theorem dX1_hasArrived_12 : decode cX1_hasArrived 12 = .ok (.ifCond .eq 7, 3) := by decide +kernel
theorem dX1_hasArrived_15 : decode cX1_hasArrived 15 = .ok (.iconst 4, 1) := by decide +kernel
theorem dX1_hasArrived_16 : decode cX1_hasArrived 16 = .ok (.goto 4, 3) := by decide +kernel
theorem dX1_hasArrived_19 : decode cX1_hasArrived 19 = .ok (.iconst 0, 1) := by decide +kernel
theorem dX1_hasArrived_20 : decode cX1_hasArrived 20 = .ok (.if_icmp .ne 7, 3) := by decide +kernel
theorem dX1_hasArrived_23 : decode cX1_hasArrived 23 = .ok (.iconst 1, 1) := by decide +kernel
theorem dX1_hasArrived_24 : decode cX1_hasArrived 24 = .ok (.goto 4, 3) := by decide +kernel
theorem dX1_hasArrived_27 : decode cX1_hasArrived 27 = .ok (.iconst 0, 1) := by decide +kernel
theorem dX1_hasArrived_28 : decode cX1_hasArrived 28 = .ok (.ireturn, 1) := by decide +kernel
theorem dX1_removeArrived_0 : decode cX1_removeArrived 0 = .ok (.iconst 0, 1) := by decide +kernel
theorem dX1_removeArrived_1 : decode cX1_removeArrived 1 = .ok (.istore_n 1, 1) := by decide +kernel
theorem dX1_removeArrived_2 : decode cX1_removeArrived 2 = .ok (.iconst 0, 1) := by decide +kernel
theorem dX1_removeArrived_3 : decode cX1_removeArrived 3 = .ok (.istore_n 2, 1) := by decide +kernel
theorem dX1_removeArrived_4 : decode cX1_removeArrived 4 = .ok (.iload_n 2, 1) := by decide +kernel
theorem dX1_removeArrived_5 : decode cX1_removeArrived 5 = .ok (.aload_n 0, 1) := by decide +kernel
theorem dX1_removeArrived_6 : decode cX1_removeArrived 6 = .ok (.getfield 9, 3) := by decide +kernel
theorem dX1_removeArrived_9 : decode cX1_removeArrived 9 = .ok (.if_icmp .ge 27, 3) := by decide +kernel
theorem dX1_removeArrived_12 : decode cX1_removeArrived 12 = .ok (.aload_n 0, 1) := by decide +kernel
theorem dX1_removeArrived_13 : decode cX1_removeArrived 13 = .ok (.iload_n 2, 1) := by decide +kernel
theorem dX1_removeArrived_14 : decode cX1_removeArrived 14 = .ok (.invokevirtual 50, 3) := by decide +kernel
theorem dX1_removeArrived_17 : decode cX1_removeArrived 17 = .ok (.ifCond .ne 13, 3) := by decide +kernel
theorem dX1_removeArrived_20 : decode cX1_removeArrived 20 = .ok (.aload_n 0, 1) := by decide +kernel
theorem dX1_removeArrived_21 : decode cX1_removeArrived 21 = .ok (.aload_n 0, 1) := by decide +kernel
theorem dX1_removeArrived_22 : decode cX1_removeArrived 22 = .ok (.iload_n 2, 1) := by decide +kernel
theorem dX1_removeArrived_23 : decode cX1_removeArrived 23 = .ok (.iload_n 1, 1) := by decide +kernel
theorem dX1_removeArrived_24 : decode cX1_removeArrived 24 = .ok (.invokevirtual 38, 3) := by decide +kernel
theorem dX1_removeArrived_27 : decode cX1_removeArrived 27 = .ok (.iinc 1 1, 3) := by decide +kernel
theorem dX1_removeArrived_30 : decode cX1_removeArrived 30 = .ok (.iinc 2 1, 3) := by decide +kernel
theorem dX1_removeArrived_33 : decode cX1_removeArrived 33 = .ok (.goto (-29), 3) := by decide +kernel
theorem dX1_removeArrived_36 : decode cX1_removeArrived 36 = .ok (.aload_n 0, 1) := by decide +kernel
theorem dX1_removeArrived_37 : decode cX1_removeArrived 37 = .ok (.getfield 9, 3) := by decide +kernel
theorem dX1_removeArrived_40 : decode cX1_removeArrived 40 = .ok (.iload_n 1, 1) := by decide +kernel
theorem dX1_removeArrived_41 : decode cX1_removeArrived 41 = .ok (.isub, 1) := by decide +kernel
theorem dX1_removeArrived_42 : decode cX1_removeArrived 42 = .ok (.istore_n 2, 1) := by decide +kernel
theorem dX1_removeArrived_43 : decode cX1_removeArrived 43 = .ok (.aload_n 0, 1) := by decide +kernel
theorem dX1_removeArrived_44 : decode cX1_removeArrived 44 = .ok (.iload_n 1, 1) := by decide +kernel
theorem dX1_removeArrived_45 : decode cX1_removeArrived 45 = .ok (.putfield 9, 3) := by decide +kernel
theorem dX1_removeArrived_48 : decode cX1_removeArrived 48 = .ok (.iload_n 2, 1) := by decide +kernel
theorem dX1_removeArrived_49 : decode cX1_removeArrived 49 = .ok (.ireturn, 1) := by decide +kernel
theorem dX1_copyBoat_0 : decode cX1_copyBoat 0 = .ok (.aload_n 0, 1) := by decide +kernel
theorem dX1_copyBoat_1 : decode cX1_copyBoat 1 = .ok (.getfield 18, 3) := by decide +kernel
theorem dX1_copyBoat_4 : decode cX1_copyBoat 4 = .ok (.iload_n 3, 1) := by decide +kernel
theorem dX1_copyBoat_5 : decode cX1_copyBoat 5 = .ok (.aload_n 1, 1) := by decide +kernel
theorem dX1_copyBoat_6 : decode cX1_copyBoat 6 = .ok (.getfield 18, 3) := by decide +kernel
theorem dX1_copyBoat_9 : decode cX1_copyBoat 9 = .ok (.iload_n 2, 1) := by decide +kernel
theorem dX1_copyBoat_10 : decode cX1_copyBoat 10 = .ok (.iaload, 1) := by decide +kernel
theorem dX1_copyBoat_11 : decode cX1_copyBoat 11 = .ok (.iastore, 1) := by decide +kernel
theorem dX1_copyBoat_12 : decode cX1_copyBoat 12 = .ok (.aload_n 0, 1) := by decide +kernel
theorem dX1_copyBoat_13 : decode cX1_copyBoat 13 = .ok (.getfield 22, 3) := by decide +kernel
theorem dX1_copyBoat_16 : decode cX1_copyBoat 16 = .ok (.iload_n 3, 1) := by decide +kernel
theorem dX1_copyBoat_17 : decode cX1_copyBoat 17 = .ok (.aload_n 1, 1) := by decide +kernel
theorem dX1_copyBoat_18 : decode cX1_copyBoat 18 = .ok (.getfield 22, 3) := by decide +kernel
theorem dX1_copyBoat_21 : decode cX1_copyBoat 21 = .ok (.iload_n 2, 1) := by decide +kernel
theorem dX1_copyBoat_22 : decode cX1_copyBoat 22 = .ok (.iaload, 1) := by decide +kernel
theorem dX1_copyBoat_23 : decode cX1_copyBoat 23 = .ok (.iastore, 1) := by decide +kernel
theorem dX1_copyBoat_24 : decode cX1_copyBoat 24 = .ok (.aload_n 0, 1) := by decide +kernel
theorem dX1_copyBoat_25 : decode cX1_copyBoat 25 = .ok (.getfield 25, 3) := by decide +kernel
theorem dX1_copyBoat_28 : decode cX1_copyBoat 28 = .ok (.iload_n 3, 1) := by decide +kernel
theorem dX1_copyBoat_29 : decode cX1_copyBoat 29 = .ok (.aload_n 1, 1) := by decide +kernel
theorem dX1_copyBoat_30 : decode cX1_copyBoat 30 = .ok (.getfield 25, 3) := by decide +kernel
theorem dX1_copyBoat_33 : decode cX1_copyBoat 33 = .ok (.iload_n 2, 1) := by decide +kernel
theorem dX1_copyBoat_34 : decode cX1_copyBoat 34 = .ok (.baload, 1) := by decide +kernel
theorem dX1_copyBoat_35 : decode cX1_copyBoat 35 = .ok (.bastore, 1) := by decide +kernel
theorem dX1_copyBoat_36 : decode cX1_copyBoat 36 = .ok (.aload_n 0, 1) := by decide +kernel
theorem dX1_copyBoat_37 : decode cX1_copyBoat 37 = .ok (.getfield 29, 3) := by decide +kernel
theorem dX1_copyBoat_40 : decode cX1_copyBoat 40 = .ok (.iload_n 3, 1) := by decide +kernel
theorem dX1_copyBoat_41 : decode cX1_copyBoat 41 = .ok (.aload_n 1, 1) := by decide +kernel
theorem dX1_copyBoat_42 : decode cX1_copyBoat 42 = .ok (.getfield 29, 3) := by decide +kernel
theorem dX1_copyBoat_45 : decode cX1_copyBoat 45 = .ok (.iload_n 2, 1) := by decide +kernel
theorem dX1_copyBoat_46 : decode cX1_copyBoat 46 = .ok (.iaload, 1) := by decide +kernel
theorem dX1_copyBoat_47 : decode cX1_copyBoat 47 = .ok (.iastore, 1) := by decide +kernel
theorem dX1_copyBoat_48 : decode cX1_copyBoat 48 = .ok (.aload_n 0, 1) := by decide +kernel
theorem dX1_copyBoat_49 : decode cX1_copyBoat 49 = .ok (.getfield 32, 3) := by decide +kernel
theorem dX1_copyBoat_52 : decode cX1_copyBoat 52 = .ok (.iload_n 3, 1) := by decide +kernel
theorem dX1_copyBoat_53 : decode cX1_copyBoat 53 = .ok (.aload_n 1, 1) := by decide +kernel
theorem dX1_copyBoat_54 : decode cX1_copyBoat 54 = .ok (.getfield 32, 3) := by decide +kernel
theorem dX1_copyBoat_57 : decode cX1_copyBoat 57 = .ok (.iload_n 2, 1) := by decide +kernel
theorem dX1_copyBoat_58 : decode cX1_copyBoat 58 = .ok (.iaload, 1) := by decide +kernel
theorem dX1_copyBoat_59 : decode cX1_copyBoat 59 = .ok (.iastore, 1) := by decide +kernel
theorem dX1_copyBoat_60 : decode cX1_copyBoat 60 = .ok (.return_, 1) := by decide +kernel
theorem dX2_init_0 : decode cX2_init 0 = .ok (.aload_n 0, 1) := by decide +kernel
theorem dX2_init_1 : decode cX2_init 1 = .ok (.invokespecial 3, 3) := by decide +kernel
theorem dX2_init_4 : decode cX2_init 4 = .ok (.aload_n 0, 1) := by decide +kernel
theorem dX2_init_5 : decode cX2_init 5 = .ok (.new 9, 3) := by decide +kernel
theorem dX2_init_8 : decode cX2_init 8 = .ok (.dup, 1) := by decide +kernel
theorem dX2_init_9 : decode cX2_init 9 = .ok (.invokespecial 11, 3) := by decide +kernel
theorem dX2_init_12 : decode cX2_init 12 = .ok (.putfield 12, 3) := by decide +kernel
theorem dX2_init_15 : decode cX2_init 15 = .ok (.aload_n 0, 1) := by decide +kernel
theorem dX2_init_16 : decode cX2_init 16 = .ok (.new 18, 3) := by decide +kernel
theorem dX2_init_19 : decode cX2_init 19 = .ok (.dup, 1) := by decide +kernel
theorem dX2_init_20 : decode cX2_init 20 = .ok (.invokespecial 20, 3) := by decide +kernel
theorem dX2_init_23 : decode cX2_init 23 = .ok (.putfield 21, 3) := by decide +kernel
theorem dX2_init_26 : decode cX2_init 26 = .ok (.aload_n 0, 1) := by decide +kernel
theorem dX2_init_27 : decode cX2_init 27 = .ok (.new 25, 3) := by decide +kernel
theorem dX2_init_30 : decode cX2_init 30 = .ok (.dup, 1) := by decide +kernel
theorem dX2_init_31 : decode cX2_init 31 = .ok (.invokespecial 27, 3) := by decide +kernel
theorem dX2_init_34 : decode cX2_init 34 = .ok (.putfield 28, 3) := by decide +kernel
theorem dX2_init_37 : decode cX2_init 37 = .ok (.aload_n 0, 1) := by decide +kernel
theorem dX2_init_38 : decode cX2_init 38 = .ok (.iconst 0, 1) := by decide +kernel
theorem dX2_init_39 : decode cX2_init 39 = .ok (.putfield 32, 3) := by decide +kernel
theorem dX2_init_42 : decode cX2_init 42 = .ok (.return_, 1) := by decide +kernel
theorem dX2_copyFrom_0 : decode cX2_copyFrom 0 = .ok (.aload_n 0, 1) := by decide +kernel
theorem dX2_copyFrom_1 : decode cX2_copyFrom 1 = .ok (.getfield 12, 3) := by decide +kernel
theorem dX2_copyFrom_4 : decode cX2_copyFrom 4 = .ok (.aload_n 1, 1) := by decide +kernel
theorem dX2_copyFrom_5 : decode cX2_copyFrom 5 = .ok (.getfield 12, 3) := by decide +kernel
theorem dX2_copyFrom_8 : decode cX2_copyFrom 8 = .ok (.invokevirtual 36, 3) := by decide +kernel
theorem dX2_copyFrom_11 : decode cX2_copyFrom 11 = .ok (.aload_n 0, 1) := by decide +kernel
theorem dX2_copyFrom_12 : decode cX2_copyFrom 12 = .ok (.getfield 21, 3) := by decide +kernel
theorem dX2_copyFrom_15 : decode cX2_copyFrom 15 = .ok (.aload_n 1, 1) := by decide +kernel
theorem dX2_copyFrom_16 : decode cX2_copyFrom 16 = .ok (.getfield 21, 3) := by decide +kernel
theorem dX2_copyFrom_19 : decode cX2_copyFrom 19 = .ok (.invokevirtual 40, 3) := by decide +kernel
theorem dX2_copyFrom_22 : decode cX2_copyFrom 22 = .ok (.aload_n 0, 1) := by decide +kernel
theorem dX2_copyFrom_23 : decode cX2_copyFrom 23 = .ok (.getfield 28, 3) := by decide +kernel
theorem dX2_copyFrom_26 : decode cX2_copyFrom 26 = .ok (.aload_n 1, 1) := by decide +kernel
theorem dX2_copyFrom_27 : decode cX2_copyFrom 27 = .ok (.getfield 28, 3) := by decide +kernel
theorem dX2_copyFrom_30 : decode cX2_copyFrom 30 = .ok (.invokevirtual 44, 3) := by decide +kernel
theorem dX2_copyFrom_33 : decode cX2_copyFrom 33 = .ok (.aload_n 0, 1) := by decide +kernel
theorem dX2_copyFrom_34 : decode cX2_copyFrom 34 = .ok (.aload_n 1, 1) := by decide +kernel
theorem dX2_copyFrom_35 : decode cX2_copyFrom 35 = .ok (.getfield 32, 3) := by decide +kernel
theorem dX2_copyFrom_38 : decode cX2_copyFrom 38 = .ok (.putfield 32, 3) := by decide +kernel
theorem dX2_copyFrom_41 : decode cX2_copyFrom 41 = .ok (.return_, 1) := by decide +kernel
theorem dX2_faultOf_0 : decode cX2_faultOf 0 = .ok (.iload_n 1, 1) := by decide +kernel
theorem dX2_faultOf_1 : decode cX2_faultOf 1 = .ok (.lookupswitch 101 #[(98, 59), (100, 85), (111, 73), (114, 85), (115, 79), (118, 66)], 59) := by decide +kernel
theorem dX2_faultOf_60 : decode cX2_faultOf 60 = .ok (.aload_n 0, 1) := by decide +kernel
theorem dX2_faultOf_61 : decode cX2_faultOf 61 = .ok (.iload_n 2, 1) := by decide +kernel
theorem dX2_faultOf_62 : decode cX2_faultOf 62 = .ok (.iload_n 3, 1) := by decide +kernel
theorem dX2_faultOf_63 : decode cX2_faultOf 63 = .ok (.invokevirtual 48, 3) := by decide +kernel
theorem dX2_faultOf_66 : decode cX2_faultOf 66 = .ok (.ireturn, 1) := by decide +kernel
theorem dX2_faultOf_67 : decode cX2_faultOf 67 = .ok (.aload_n 0, 1) := by decide +kernel
theorem dX2_faultOf_68 : decode cX2_faultOf 68 = .ok (.iload_n 2, 1) := by decide +kernel
theorem dX2_faultOf_69 : decode cX2_faultOf 69 = .ok (.iload_n 3, 1) := by decide +kernel
theorem dX2_faultOf_70 : decode cX2_faultOf 70 = .ok (.invokevirtual 52, 3) := by decide +kernel
theorem dX2_faultOf_73 : decode cX2_faultOf 73 = .ok (.ireturn, 1) := by decide +kernel
theorem dX2_faultOf_74 : decode cX2_faultOf 74 = .ok (.aload_n 0, 1) := by decide +kernel
theorem dX2_faultOf_75 : decode cX2_faultOf 75 = .ok (.iload_n 2, 1) := by decide +kernel
theorem dX2_faultOf_76 : decode cX2_faultOf 76 = .ok (.invokevirtual 55, 3) := by decide +kernel
theorem dX2_faultOf_79 : decode cX2_faultOf 79 = .ok (.ireturn, 1) := by decide +kernel
theorem dX2_faultOf_80 : decode cX2_faultOf 80 = .ok (.aload_n 0, 1) := by decide +kernel
theorem dX2_faultOf_81 : decode cX2_faultOf 81 = .ok (.iload_n 2, 1) := by decide +kernel
theorem dX2_faultOf_82 : decode cX2_faultOf 82 = .ok (.invokevirtual 59, 3) := by decide +kernel
theorem dX2_faultOf_85 : decode cX2_faultOf 85 = .ok (.ireturn, 1) := by decide +kernel
theorem dX2_faultOf_86 : decode cX2_faultOf 86 = .ok (.iload_n 2, 1) := by decide +kernel
theorem dX2_faultOf_87 : decode cX2_faultOf 87 = .ok (.ifCond .lt 9, 3) := by decide +kernel
theorem dX2_faultOf_90 : decode cX2_faultOf 90 = .ok (.iload_n 2, 1) := by decide +kernel
theorem dX2_faultOf_91 : decode cX2_faultOf 91 = .ok (.bipush 9, 2) := by decide +kernel
theorem dX2_faultOf_93 : decode cX2_faultOf 93 = .ok (.if_icmp .le 7, 3) := by decide +kernel
theorem dX2_faultOf_96 : decode cX2_faultOf 96 = .ok (.iconst 2, 1) := by decide +kernel
theorem dX2_faultOf_97 : decode cX2_faultOf 97 = .ok (.goto 4, 3) := by decide +kernel
theorem dX2_faultOf_100 : decode cX2_faultOf 100 = .ok (.iconst 0, 1) := by decide +kernel
theorem dX2_faultOf_101 : decode cX2_faultOf 101 = .ok (.ireturn, 1) := by decide +kernel
theorem dX2_faultOf_102 : decode cX2_faultOf 102 = .ok (.iload_n 2, 1) := by decide +kernel
theorem dX2_faultOf_103 : decode cX2_faultOf 103 = .ok (.iconst 1, 1) := by decide +kernel
theorem dX2_faultOf_104 : decode cX2_faultOf 104 = .ok (.if_icmp .lt 10, 3) := by decide +kernel
theorem dX2_faultOf_107 : decode cX2_faultOf 107 = .ok (.iload_n 2, 1) := by decide +kernel
theorem dX2_faultOf_108 : decode cX2_faultOf 108 = .ok (.sipush 200, 3) := by decide +kernel
theorem dX2_faultOf_111 : decode cX2_faultOf 111 = .ok (.if_icmp .le 7, 3) := by decide +kernel
theorem dX2_faultOf_114 : decode cX2_faultOf 114 = .ok (.iconst 2, 1) := by decide +kernel
theorem dX2_faultOf_115 : decode cX2_faultOf 115 = .ok (.goto 4, 3) := by decide +kernel
theorem dX2_faultOf_118 : decode cX2_faultOf 118 = .ok (.iconst 0, 1) := by decide +kernel
theorem dX2_faultOf_119 : decode cX2_faultOf 119 = .ok (.ireturn, 1) := by decide +kernel
theorem dX2_faultOfBoat_0 : decode cX2_faultOfBoat 0 = .ok (.iload_n 1, 1) := by decide +kernel
theorem dX2_faultOfBoat_1 : decode cX2_faultOfBoat 1 = .ok (.invokestatic 62, 3) := by decide +kernel
theorem dX2_faultOfBoat_4 : decode cX2_faultOfBoat 4 = .ok (.iconst (-1), 1) := by decide +kernel
theorem dX2_faultOfBoat_5 : decode cX2_faultOfBoat 5 = .ok (.if_icmp .eq 14, 3) := by decide +kernel
theorem dX2_faultOfBoat_8 : decode cX2_faultOfBoat 8 = .ok (.iload_n 2, 1) := by decide +kernel
theorem dX2_faultOfBoat_9 : decode cX2_faultOfBoat 9 = .ok (.iconst 1, 1) := by decide +kernel
theorem dX2_faultOfBoat_10 : decode cX2_faultOfBoat 10 = .ok (.if_icmp .lt 9, 3) := by decide +kernel
theorem dX2_faultOfBoat_13 : decode cX2_faultOfBoat 13 = .ok (.iload_n 2, 1) := by decide +kernel
theorem dX2_faultOfBoat_14 : decode cX2_faultOfBoat 14 = .ok (.bipush 9, 2) := by decide +kernel
theorem dX2_faultOfBoat_16 : decode cX2_faultOfBoat 16 = .ok (.if_icmp .le 5, 3) := by decide +kernel
theorem dX2_faultOfBoat_19 : decode cX2_faultOfBoat 19 = .ok (.iconst 2, 1) := by decide +kernel
theorem dX2_faultOfBoat_20 : decode cX2_faultOfBoat 20 = .ok (.ireturn, 1) := by decide +kernel
theorem dX2_faultOfBoat_21 : decode cX2_faultOfBoat 21 = .ok (.aload_n 0, 1) := by decide +kernel
theorem dX2_faultOfBoat_22 : decode cX2_faultOfBoat 22 = .ok (.getfield 21, 3) := by decide +kernel
theorem dX2_faultOfBoat_25 : decode cX2_faultOfBoat 25 = .ok (.getfield 65, 3) := by decide +kernel
theorem dX2_faultOfBoat_28 : decode cX2_faultOfBoat 28 = .ok (.bipush 8, 2) := by decide +kernel
theorem dX2_faultOfBoat_30 : decode cX2_faultOfBoat 30 = .ok (.if_icmp .lt 7, 3) := by decide +kernel
theorem dX2_faultOfBoat_33 : decode cX2_faultOfBoat 33 = .ok (.iconst 3, 1) := by decide +kernel
theorem dX2_faultOfBoat_34 : decode cX2_faultOfBoat 34 = .ok (.goto 4, 3) := by decide +kernel
theorem dX2_faultOfBoat_37 : decode cX2_faultOfBoat 37 = .ok (.iconst 0, 1) := by decide +kernel
theorem dX2_faultOfBoat_38 : decode cX2_faultOfBoat 38 = .ok (.ireturn, 1) := by decide +kernel
theorem dX2_faultOfValve_0 : decode cX2_faultOfValve 0 = .ok (.iload_n 1, 1) := by decide +kernel
theorem dX2_faultOfValve_1 : decode cX2_faultOfValve 1 = .ok (.invokestatic 68, 3) := by decide +kernel
theorem dX2_faultOfValve_4 : decode cX2_faultOfValve 4 = .ok (.ifCond .ne 5, 3) := by decide +kernel
theorem dX2_faultOfValve_7 : decode cX2_faultOfValve 7 = .ok (.iconst 1, 1) := by decide +kernel
theorem dX2_faultOfValve_8 : decode cX2_faultOfValve 8 = .ok (.ireturn, 1) := by decide +kernel
theorem dX2_faultOfValve_9 : decode cX2_faultOfValve 9 = .ok (.iload_n 2, 1) := by decide +kernel
theorem dX2_faultOfValve_10 : decode cX2_faultOfValve 10 = .ok (.ifCond .lt 8, 3) := by decide +kernel
theorem dX2_faultOfValve_13 : decode cX2_faultOfValve 13 = .ok (.iload_n 2, 1) := by decide +kernel
theorem dX2_faultOfValve_14 : decode cX2_faultOfValve 14 = .ok (.iconst 3, 1) := by decide +kernel
theorem dX2_faultOfValve_15 : decode cX2_faultOfValve 15 = .ok (.if_icmp .le 7, 3) := by decide +kernel
theorem dX2_faultOfValve_18 : decode cX2_faultOfValve 18 = .ok (.iconst 2, 1) := by decide +kernel
theorem dX2_faultOfValve_19 : decode cX2_faultOfValve 19 = .ok (.goto 4, 3) := by decide +kernel
theorem dX2_faultOfValve_22 : decode cX2_faultOfValve 22 = .ok (.iconst 0, 1) := by decide +kernel
theorem dX2_faultOfValve_23 : decode cX2_faultOfValve 23 = .ok (.ireturn, 1) := by decide +kernel
theorem dX2_faultOfOpening_0 : decode cX2_faultOfOpening 0 = .ok (.iload_n 1, 1) := by decide +kernel
theorem dX2_faultOfOpening_1 : decode cX2_faultOfOpening 1 = .ok (.invokestatic 68, 3) := by decide +kernel
theorem dX2_faultOfOpening_4 : decode cX2_faultOfOpening 4 = .ok (.ifCond .ne 5, 3) := by decide +kernel
theorem dX2_faultOfOpening_7 : decode cX2_faultOfOpening 7 = .ok (.iconst 1, 1) := by decide +kernel
theorem dX2_faultOfOpening_8 : decode cX2_faultOfOpening 8 = .ok (.ireturn, 1) := by decide +kernel
theorem dX2_faultOfOpening_9 : decode cX2_faultOfOpening 9 = .ok (.aload_n 0, 1) := by decide +kernel
theorem dX2_faultOfOpening_10 : decode cX2_faultOfOpening 10 = .ok (.getfield 12, 3) := by decide +kernel
theorem dX2_faultOfOpening_13 : decode cX2_faultOfOpening 13 = .ok (.getfield 72, 3) := by decide +kernel
theorem dX2_faultOfOpening_16 : decode cX2_faultOfOpening 16 = .ok (.iload_n 1, 1) := by decide +kernel
theorem dX2_faultOfOpening_17 : decode cX2_faultOfOpening 17 = .ok (.baload, 1) := by decide +kernel
theorem dX2_faultOfOpening_18 : decode cX2_faultOfOpening 18 = .ok (.ifCond .eq 5, 3) := by decide +kernel
theorem dX2_faultOfOpening_21 : decode cX2_faultOfOpening 21 = .ok (.iconst 3, 1) := by decide +kernel
theorem dX2_faultOfOpening_22 : decode cX2_faultOfOpening 22 = .ok (.ireturn, 1) := by decide +kernel
theorem dX2_faultOfOpening_23 : decode cX2_faultOfOpening 23 = .ok (.aload_n 0, 1) := by decide +kernel
theorem dX2_faultOfOpening_24 : decode cX2_faultOfOpening 24 = .ok (.getfield 12, 3) := by decide +kernel
theorem dX2_faultOfOpening_27 : decode cX2_faultOfOpening 27 = .ok (.iload_n 1, 1) := by decide +kernel
theorem dX2_faultOfOpening_28 : decode cX2_faultOfOpening 28 = .ok (.invokevirtual 76, 3) := by decide +kernel
theorem dX2_faultOfOpening_31 : decode cX2_faultOfOpening 31 = .ok (.ifCond .eq 7, 3) := by decide +kernel
theorem dX2_faultOfOpening_34 : decode cX2_faultOfOpening 34 = .ok (.iconst 4, 1) := by decide +kernel
theorem dX2_faultOfOpening_35 : decode cX2_faultOfOpening 35 = .ok (.goto 4, 3) := by decide +kernel
theorem dX2_faultOfOpening_38 : decode cX2_faultOfOpening 38 = .ok (.iconst 0, 1) := by decide +kernel
theorem dX2_faultOfOpening_39 : decode cX2_faultOfOpening 39 = .ok (.ireturn, 1) := by decide +kernel
theorem dX2_faultOfShutting_0 : decode cX2_faultOfShutting 0 = .ok (.iload_n 1, 1) := by decide +kernel
theorem dX2_faultOfShutting_1 : decode cX2_faultOfShutting 1 = .ok (.invokestatic 68, 3) := by decide +kernel
theorem dX2_faultOfShutting_4 : decode cX2_faultOfShutting 4 = .ok (.ifCond .ne 5, 3) := by decide +kernel
theorem dX2_faultOfShutting_7 : decode cX2_faultOfShutting 7 = .ok (.iconst 1, 1) := by decide +kernel
theorem dX2_faultOfShutting_8 : decode cX2_faultOfShutting 8 = .ok (.ireturn, 1) := by decide +kernel
theorem dX2_faultOfShutting_9 : decode cX2_faultOfShutting 9 = .ok (.aload_n 0, 1) := by decide +kernel
theorem dX2_faultOfShutting_10 : decode cX2_faultOfShutting 10 = .ok (.getfield 12, 3) := by decide +kernel
theorem dX2_faultOfShutting_13 : decode cX2_faultOfShutting 13 = .ok (.getfield 72, 3) := by decide +kernel
theorem dX2_faultOfShutting_16 : decode cX2_faultOfShutting 16 = .ok (.iload_n 1, 1) := by decide +kernel
theorem dX2_faultOfShutting_17 : decode cX2_faultOfShutting 17 = .ok (.baload, 1) := by decide +kernel
theorem dX2_faultOfShutting_18 : decode cX2_faultOfShutting 18 = .ok (.ifCond .eq 7, 3) := by decide +kernel
theorem dX2_faultOfShutting_21 : decode cX2_faultOfShutting 21 = .ok (.iconst 0, 1) := by decide +kernel
theorem dX2_faultOfShutting_22 : decode cX2_faultOfShutting 22 = .ok (.goto 4, 3) := by decide +kernel
theorem dX2_faultOfShutting_25 : decode cX2_faultOfShutting 25 = .ok (.iconst 3, 1) := by decide +kernel
theorem dX2_faultOfShutting_26 : decode cX2_faultOfShutting 26 = .ok (.ireturn, 1) := by decide +kernel
theorem dX2_act_0 : decode cX2_act 0 = .ok (.iload_n 1, 1) := by decide +kernel
theorem dX2_act_1 : decode cX2_act 1 = .ok (.lookupswitch 116 #[(98, 59), (100, 110), (111, 90), (114, 104), (115, 97), (118, 83)], 59) := by decide +kernel
theorem dX2_act_60 : decode cX2_act 60 = .ok (.aload_n 0, 1) := by decide +kernel
theorem dX2_act_61 : decode cX2_act 61 = .ok (.getfield 21, 3) := by decide +kernel
theorem dX2_act_64 : decode cX2_act 64 = .ok (.iload_n 2, 1) := by decide +kernel
theorem dX2_act_65 : decode cX2_act 65 = .ok (.invokestatic 62, 3) := by decide +kernel
theorem dX2_act_68 : decode cX2_act 68 = .ok (.iload_n 3, 1) := by decide +kernel
theorem dX2_act_69 : decode cX2_act 69 = .ok (.iload 4, 2) := by decide +kernel
theorem dX2_act_71 : decode cX2_act 71 = .ok (.iconst 1, 1) := by decide +kernel
theorem dX2_act_72 : decode cX2_act 72 = .ok (.if_icmp .ne 7, 3) := by decide +kernel
theorem dX2_act_75 : decode cX2_act 75 = .ok (.iconst 1, 1) := by decide +kernel
theorem dX2_act_76 : decode cX2_act 76 = .ok (.goto 4, 3) := by decide +kernel
theorem dX2_act_79 : decode cX2_act 79 = .ok (.iconst 0, 1) := by decide +kernel
theorem dX2_act_80 : decode cX2_act 80 = .ok (.invokevirtual 79, 3) := by decide +kernel
theorem dX2_act_83 : decode cX2_act 83 = .ok (.ireturn, 1) := by decide +kernel
theorem dX2_act_84 : decode cX2_act 84 = .ok (.aload_n 0, 1) := by decide +kernel
theorem dX2_act_85 : decode cX2_act 85 = .ok (.iload_n 2, 1) := by decide +kernel
theorem dX2_act_86 : decode cX2_act 86 = .ok (.iload_n 3, 1) := by decide +kernel
theorem dX2_act_87 : decode cX2_act 87 = .ok (.invokevirtual 83, 3) := by decide +kernel
theorem dX2_act_90 : decode cX2_act 90 = .ok (.ireturn, 1) := by decide +kernel
theorem dX2_act_91 : decode cX2_act 91 = .ok (.aload_n 0, 1) := by decide +kernel
theorem dX2_act_92 : decode cX2_act 92 = .ok (.iload_n 2, 1) := by decide +kernel
theorem dX2_act_93 : decode cX2_act 93 = .ok (.iconst 1, 1) := by decide +kernel
theorem dX2_act_94 : decode cX2_act 94 = .ok (.invokevirtual 86, 3) := by decide +kernel
theorem dX2_act_97 : decode cX2_act 97 = .ok (.ireturn, 1) := by decide +kernel
theorem dX2_act_98 : decode cX2_act 98 = .ok (.aload_n 0, 1) := by decide +kernel
theorem dX2_act_99 : decode cX2_act 99 = .ok (.iload_n 2, 1) := by decide +kernel
theorem dX2_act_100 : decode cX2_act 100 = .ok (.iconst 0, 1) := by decide +kernel
theorem dX2_act_101 : decode cX2_act 101 = .ok (.invokevirtual 86, 3) := by decide +kernel
theorem dX2_act_104 : decode cX2_act 104 = .ok (.ireturn, 1) := by decide +kernel
theorem dX2_act_105 : decode cX2_act 105 = .ok (.aload_n 0, 1) := by decide +kernel
theorem dX2_act_106 : decode cX2_act 106 = .ok (.iload_n 2, 1) := by decide +kernel
theorem dX2_act_107 : decode cX2_act 107 = .ok (.invokevirtual 90, 3) := by decide +kernel
theorem dX2_act_110 : decode cX2_act 110 = .ok (.ireturn, 1) := by decide +kernel
theorem dX2_act_111 : decode cX2_act 111 = .ok (.aload_n 0, 1) := by decide +kernel
theorem dX2_act_112 : decode cX2_act 112 = .ok (.iload_n 2, 1) := by decide +kernel
theorem dX2_act_113 : decode cX2_act 113 = .ok (.invokevirtual 93, 3) := by decide +kernel
theorem dX2_act_116 : decode cX2_act 116 = .ok (.ireturn, 1) := by decide +kernel
theorem dX2_act_117 : decode cX2_act 117 = .ok (.aload_n 0, 1) := by decide +kernel
theorem dX2_act_118 : decode cX2_act 118 = .ok (.iload_n 2, 1) := by decide +kernel
theorem dX2_act_119 : decode cX2_act 119 = .ok (.invokevirtual 96, 3) := by decide +kernel
theorem dX2_act_122 : decode cX2_act 122 = .ok (.ireturn, 1) := by decide +kernel
theorem dX2_turnValve_0 : decode cX2_turnValve 0 = .ok (.aload_n 0, 1) := by decide +kernel
theorem dX2_turnValve_1 : decode cX2_turnValve 1 = .ok (.getfield 12, 3) := by decide +kernel
theorem dX2_turnValve_4 : decode cX2_turnValve 4 = .ok (.getfield 99, 3) := by decide +kernel
theorem dX2_turnValve_7 : decode cX2_turnValve 7 = .ok (.iload_n 1, 1) := by decide +kernel
theorem dX2_turnValve_8 : decode cX2_turnValve 8 = .ok (.iaload, 1) := by decide +kernel
theorem dX2_turnValve_9 : decode cX2_turnValve 9 = .ok (.istore_n 3, 1) := by decide +kernel
theorem dX2_turnValve_10 : decode cX2_turnValve 10 = .ok (.aload_n 0, 1) := by decide +kernel
theorem dX2_turnValve_11 : decode cX2_turnValve 11 = .ok (.getfield 12, 3) := by decide +kernel
theorem dX2_turnValve_14 : decode cX2_turnValve 14 = .ok (.getfield 99, 3) := by decide +kernel
theorem dX2_turnValve_17 : decode cX2_turnValve 17 = .ok (.iload_n 1, 1) := by decide +kernel
theorem dX2_turnValve_18 : decode cX2_turnValve 18 = .ok (.iload_n 2, 1) := by decide +kernel
theorem dX2_turnValve_19 : decode cX2_turnValve 19 = .ok (.iastore, 1) := by decide +kernel
theorem dX2_turnValve_20 : decode cX2_turnValve 20 = .ok (.iload_n 3, 1) := by decide +kernel
theorem dX2_turnValve_21 : decode cX2_turnValve 21 = .ok (.ireturn, 1) := by decide +kernel
theorem dX2_moveGate_0 : decode cX2_moveGate 0 = .ok (.aload_n 0, 1) := by decide +kernel
theorem dX2_moveGate_1 : decode cX2_moveGate 1 = .ok (.getfield 12, 3) := by decide +kernel
theorem dX2_moveGate_4 : decode cX2_moveGate 4 = .ok (.getfield 72, 3) := by decide +kernel
theorem dX2_moveGate_7 : decode cX2_moveGate 7 = .ok (.iload_n 1, 1) := by decide +kernel
theorem dX2_moveGate_8 : decode cX2_moveGate 8 = .ok (.iload_n 2, 1) := by decide +kernel
theorem dX2_moveGate_9 : decode cX2_moveGate 9 = .ok (.bastore, 1) := by decide +kernel
theorem dX2_moveGate_10 : decode cX2_moveGate 10 = .ok (.aload_n 0, 1) := by decide +kernel
theorem dX2_moveGate_11 : decode cX2_moveGate 11 = .ok (.getfield 12, 3) := by decide +kernel
theorem dX2_moveGate_14 : decode cX2_moveGate 14 = .ok (.invokevirtual 103, 3) := by decide +kernel
theorem dX2_moveGate_17 : decode cX2_moveGate 17 = .ok (.ireturn, 1) := by decide +kernel
theorem dX2_changeRain_0 : decode cX2_changeRain 0 = .ok (.aload_n 0, 1) := by decide +kernel
theorem dX2_changeRain_1 : decode cX2_changeRain 1 = .ok (.getfield 12, 3) := by decide +kernel
theorem dX2_changeRain_4 : decode cX2_changeRain 4 = .ok (.getfield 107, 3) := by decide +kernel
theorem dX2_changeRain_7 : decode cX2_changeRain 7 = .ok (.istore_n 2, 1) := by decide +kernel
theorem dX2_changeRain_8 : decode cX2_changeRain 8 = .ok (.aload_n 0, 1) := by decide +kernel
theorem dX2_changeRain_9 : decode cX2_changeRain 9 = .ok (.getfield 12, 3) := by decide +kernel
theorem dX2_changeRain_12 : decode cX2_changeRain 12 = .ok (.iload_n 1, 1) := by decide +kernel
theorem dX2_changeRain_13 : decode cX2_changeRain 13 = .ok (.putfield 107, 3) := by decide +kernel
theorem dX2_changeRain_16 : decode cX2_changeRain 16 = .ok (.iload_n 2, 1) := by decide +kernel
theorem dX2_changeRain_17 : decode cX2_changeRain 17 = .ok (.ireturn, 1) := by decide +kernel
theorem dX2_changeDrain_0 : decode cX2_changeDrain 0 = .ok (.aload_n 0, 1) := by decide +kernel
theorem dX2_changeDrain_1 : decode cX2_changeDrain 1 = .ok (.getfield 12, 3) := by decide +kernel
theorem dX2_changeDrain_4 : decode cX2_changeDrain 4 = .ok (.getfield 110, 3) := by decide +kernel
theorem dX2_changeDrain_7 : decode cX2_changeDrain 7 = .ok (.istore_n 2, 1) := by decide +kernel
theorem dX2_changeDrain_8 : decode cX2_changeDrain 8 = .ok (.aload_n 0, 1) := by decide +kernel
theorem dX2_changeDrain_9 : decode cX2_changeDrain 9 = .ok (.getfield 12, 3) := by decide +kernel
theorem dX2_changeDrain_12 : decode cX2_changeDrain 12 = .ok (.iload_n 1, 1) := by decide +kernel
theorem dX2_changeDrain_13 : decode cX2_changeDrain 13 = .ok (.putfield 110, 3) := by decide +kernel
theorem dX2_changeDrain_16 : decode cX2_changeDrain 16 = .ok (.iload_n 2, 1) := by decide +kernel
theorem dX2_changeDrain_17 : decode cX2_changeDrain 17 = .ok (.ireturn, 1) := by decide +kernel
theorem dX2_passMinutes_0 : decode cX2_passMinutes 0 = .ok (.iconst 0, 1) := by decide +kernel
theorem dX2_passMinutes_1 : decode cX2_passMinutes 1 = .ok (.istore_n 2, 1) := by decide +kernel
theorem dX2_passMinutes_2 : decode cX2_passMinutes 2 = .ok (.iconst 0, 1) := by decide +kernel
theorem dX2_passMinutes_3 : decode cX2_passMinutes 3 = .ok (.istore_n 3, 1) := by decide +kernel
theorem dX2_passMinutes_4 : decode cX2_passMinutes 4 = .ok (.iload_n 3, 1) := by decide +kernel
theorem dX2_passMinutes_5 : decode cX2_passMinutes 5 = .ok (.iload_n 1, 1) := by decide +kernel
theorem dX2_passMinutes_6 : decode cX2_passMinutes 6 = .ok (.if_icmp .ge 70, 3) := by decide +kernel
theorem dX2_passMinutes_9 : decode cX2_passMinutes 9 = .ok (.aload_n 0, 1) := by decide +kernel
theorem dX2_passMinutes_10 : decode cX2_passMinutes 10 = .ok (.dup, 1) := by decide +kernel
theorem dX2_passMinutes_11 : decode cX2_passMinutes 11 = .ok (.getfield 32, 3) := by decide +kernel
theorem dX2_passMinutes_14 : decode cX2_passMinutes 14 = .ok (.iconst 1, 1) := by decide +kernel
theorem dX2_passMinutes_15 : decode cX2_passMinutes 15 = .ok (.iadd, 1) := by decide +kernel
theorem dX2_passMinutes_16 : decode cX2_passMinutes 16 = .ok (.putfield 32, 3) := by decide +kernel
theorem dX2_passMinutes_19 : decode cX2_passMinutes 19 = .ok (.aload_n 0, 1) := by decide +kernel
theorem dX2_passMinutes_20 : decode cX2_passMinutes 20 = .ok (.invokevirtual 113, 3) := by decide +kernel
theorem dX2_passMinutes_23 : decode cX2_passMinutes 23 = .ok (.iconst 0, 1) := by decide +kernel
theorem dX2_passMinutes_24 : decode cX2_passMinutes 24 = .ok (.istore 4, 2) := by decide +kernel
theorem dX2_passMinutes_26 : decode cX2_passMinutes 26 = .ok (.iload 4, 2) := by decide +kernel
theorem dX2_passMinutes_28 : decode cX2_passMinutes 28 = .ok (.iconst 4, 1) := by decide +kernel
theorem dX2_passMinutes_29 : decode cX2_passMinutes 29 = .ok (.if_icmp .ge 27, 3) := by decide +kernel
theorem dX2_passMinutes_32 : decode cX2_passMinutes 32 = .ok (.aload_n 0, 1) := by decide +kernel
theorem dX2_passMinutes_33 : decode cX2_passMinutes 33 = .ok (.getfield 12, 3) := by decide +kernel
theorem dX2_passMinutes_36 : decode cX2_passMinutes 36 = .ok (.iload 4, 2) := by decide +kernel
theorem dX2_passMinutes_38 : decode cX2_passMinutes 38 = .ok (.aload_n 0, 1) := by decide +kernel
theorem dX2_passMinutes_39 : decode cX2_passMinutes 39 = .ok (.getfield 12, 3) := by decide +kernel
theorem dX2_passMinutes_42 : decode cX2_passMinutes 42 = .ok (.iload 4, 2) := by decide +kernel
theorem dX2_passMinutes_44 : decode cX2_passMinutes 44 = .ok (.invokevirtual 116, 3) := by decide +kernel
theorem dX2_passMinutes_47 : decode cX2_passMinutes 47 = .ok (.invokevirtual 119, 3) := by decide +kernel
theorem dX2_passMinutes_50 : decode cX2_passMinutes 50 = .ok (.iinc 4 1, 3) := by decide +kernel
theorem dX2_passMinutes_53 : decode cX2_passMinutes 53 = .ok (.goto (-27), 3) := by decide +kernel
theorem dX2_passMinutes_56 : decode cX2_passMinutes 56 = .ok (.aload_n 0, 1) := by decide +kernel
theorem dX2_passMinutes_57 : decode cX2_passMinutes 57 = .ok (.invokevirtual 123, 3) := by decide +kernel
theorem dX2_passMinutes_60 : decode cX2_passMinutes 60 = .ok (.iload_n 2, 1) := by decide +kernel
theorem dX2_passMinutes_61 : decode cX2_passMinutes 61 = .ok (.aload_n 0, 1) := by decide +kernel
theorem dX2_passMinutes_62 : decode cX2_passMinutes 62 = .ok (.getfield 21, 3) := by decide +kernel
theorem dX2_passMinutes_65 : decode cX2_passMinutes 65 = .ok (.invokevirtual 126, 3) := by decide +kernel
theorem dX2_passMinutes_68 : decode cX2_passMinutes 68 = .ok (.iadd, 1) := by decide +kernel
theorem dX2_passMinutes_69 : decode cX2_passMinutes 69 = .ok (.istore_n 2, 1) := by decide +kernel
theorem dX2_passMinutes_70 : decode cX2_passMinutes 70 = .ok (.iinc 3 1, 3) := by decide +kernel
theorem dX2_passMinutes_73 : decode cX2_passMinutes 73 = .ok (.goto (-69), 3) := by decide +kernel
theorem dX2_passMinutes_76 : decode cX2_passMinutes 76 = .ok (.iload_n 2, 1) := by decide +kernel
theorem dX2_passMinutes_77 : decode cX2_passMinutes 77 = .ok (.ireturn, 1) := by decide +kernel
theorem dX2_passWeather_0 : decode cX2_passWeather 0 = .ok (.aload_n 0, 1) := by decide +kernel
theorem dX2_passWeather_1 : decode cX2_passWeather 1 = .ok (.getfield 12, 3) := by decide +kernel
theorem dX2_passWeather_4 : decode cX2_passWeather 4 = .ok (.invokevirtual 129, 3) := by decide +kernel
theorem dX2_passWeather_7 : decode cX2_passWeather 7 = .ok (.istore_n 1, 1) := by decide +kernel
theorem dX2_passWeather_8 : decode cX2_passWeather 8 = .ok (.iload_n 1, 1) := by decide +kernel
theorem dX2_passWeather_9 : decode cX2_passWeather 9 = .ok (.ifCond .le 13, 3) := by decide +kernel
theorem dX2_passWeather_12 : decode cX2_passWeather 12 = .ok (.aload_n 0, 1) := by decide +kernel
theorem dX2_passWeather_13 : decode cX2_passWeather 13 = .ok (.getfield 28, 3) := by decide +kernel
theorem dX2_passWeather_16 : decode cX2_passWeather 16 = .ok (.bipush 115, 2) := by decide +kernel
theorem dX2_passWeather_18 : decode cX2_passWeather 18 = .ok (.iload_n 1, 1) := by decide +kernel
theorem dX2_passWeather_19 : decode cX2_passWeather 19 = .ok (.invokevirtual 132, 3) := by decide +kernel
theorem dX2_passWeather_22 : decode cX2_passWeather 22 = .ok (.aload_n 0, 1) := by decide +kernel
theorem dX2_passWeather_23 : decode cX2_passWeather 23 = .ok (.getfield 12, 3) := by decide +kernel
theorem dX2_passWeather_26 : decode cX2_passWeather 26 = .ok (.invokevirtual 136, 3) := by decide +kernel
theorem dX2_passWeather_29 : decode cX2_passWeather 29 = .ok (.return_, 1) := by decide +kernel
theorem dX2_passGates_0 : decode cX2_passGates 0 = .ok (.iconst 0, 1) := by decide +kernel
theorem dX2_passGates_1 : decode cX2_passGates 1 = .ok (.istore_n 1, 1) := by decide +kernel
theorem dX2_passGates_2 : decode cX2_passGates 2 = .ok (.iconst 0, 1) := by decide +kernel
theorem dX2_passGates_3 : decode cX2_passGates 3 = .ok (.istore_n 2, 1) := by decide +kernel
theorem dX2_passGates_4 : decode cX2_passGates 4 = .ok (.iload_n 2, 1) := by decide +kernel
theorem dX2_passGates_5 : decode cX2_passGates 5 = .ok (.iconst 3, 1) := by decide +kernel
theorem dX2_passGates_6 : decode cX2_passGates 6 = .ok (.if_icmp .ge 68, 3) := by decide +kernel
theorem dX2_passGates_9 : decode cX2_passGates 9 = .ok (.iconst 0, 1) := by decide +kernel
theorem dX2_passGates_10 : decode cX2_passGates 10 = .ok (.istore_n 3, 1) := by decide +kernel
theorem dX2_passGates_11 : decode cX2_passGates 11 = .ok (.iload_n 3, 1) := by decide +kernel
theorem dX2_passGates_12 : decode cX2_passGates 12 = .ok (.aload_n 0, 1) := by decide +kernel
theorem dX2_passGates_13 : decode cX2_passGates 13 = .ok (.getfield 21, 3) := by decide +kernel
theorem dX2_passGates_16 : decode cX2_passGates 16 = .ok (.getfield 65, 3) := by decide +kernel
theorem dX2_passGates_19 : decode cX2_passGates 19 = .ok (.if_icmp .ge 49, 3) := by decide +kernel
theorem dX2_passGates_22 : decode cX2_passGates 22 = .ok (.aload_n 0, 1) := by decide +kernel
theorem dX2_passGates_23 : decode cX2_passGates 23 = .ok (.getfield 21, 3) := by decide +kernel
theorem dX2_passGates_26 : decode cX2_passGates 26 = .ok (.getfield 139, 3) := by decide +kernel
theorem dX2_passGates_29 : decode cX2_passGates 29 = .ok (.iload_n 3, 1) := by decide +kernel
theorem dX2_passGates_30 : decode cX2_passGates 30 = .ok (.iaload, 1) := by decide +kernel
theorem dX2_passGates_31 : decode cX2_passGates 31 = .ok (.iload_n 2, 1) := by decide +kernel
theorem dX2_passGates_32 : decode cX2_passGates 32 = .ok (.if_icmp .ne 30, 3) := by decide +kernel
theorem dX2_passGates_35 : decode cX2_passGates 35 = .ok (.aload_n 0, 1) := by decide +kernel
theorem dX2_passGates_36 : decode cX2_passGates 36 = .ok (.iload_n 3, 1) := by decide +kernel
theorem dX2_passGates_37 : decode cX2_passGates 37 = .ok (.iload_n 1, 1) := by decide +kernel
theorem dX2_passGates_38 : decode cX2_passGates 38 = .ok (.invokevirtual 142, 3) := by decide +kernel
theorem dX2_passGates_41 : decode cX2_passGates 41 = .ok (.ifCond .eq 21, 3) := by decide +kernel
theorem dX2_passGates_44 : decode cX2_passGates 44 = .ok (.iload_n 1, 1) := by decide +kernel
theorem dX2_passGates_45 : decode cX2_passGates 45 = .ok (.iconst 1, 1) := by decide +kernel
theorem dX2_passGates_46 : decode cX2_passGates 46 = .ok (.aload_n 0, 1) := by decide +kernel
theorem dX2_passGates_47 : decode cX2_passGates 47 = .ok (.getfield 21, 3) := by decide +kernel
theorem dX2_passGates_50 : decode cX2_passGates 50 = .ok (.iload_n 3, 1) := by decide +kernel
theorem dX2_passGates_51 : decode cX2_passGates 51 = .ok (.invokevirtual 146, 3) := by decide +kernel
theorem dX2_passGates_54 : decode cX2_passGates 54 = .ok (.ishl, 1) := by decide +kernel
theorem dX2_passGates_55 : decode cX2_passGates 55 = .ok (.ior, 1) := by decide +kernel
theorem dX2_passGates_56 : decode cX2_passGates 56 = .ok (.istore_n 1, 1) := by decide +kernel
theorem dX2_passGates_57 : decode cX2_passGates 57 = .ok (.aload_n 0, 1) := by decide +kernel
theorem dX2_passGates_58 : decode cX2_passGates 58 = .ok (.iload_n 3, 1) := by decide +kernel
theorem dX2_passGates_59 : decode cX2_passGates 59 = .ok (.invokevirtual 149, 3) := by decide +kernel
theorem dX2_passGates_62 : decode cX2_passGates 62 = .ok (.iinc 3 1, 3) := by decide +kernel
theorem dX2_passGates_65 : decode cX2_passGates 65 = .ok (.goto (-54), 3) := by decide +kernel
theorem dX2_passGates_68 : decode cX2_passGates 68 = .ok (.iinc 2 1, 3) := by decide +kernel
theorem dX2_passGates_71 : decode cX2_passGates 71 = .ok (.goto (-67), 3) := by decide +kernel
theorem dX2_passGates_74 : decode cX2_passGates 74 = .ok (.return_, 1) := by decide +kernel
theorem dX2_mayPass_0 : decode cX2_mayPass 0 = .ok (.aload_n 0, 1) := by decide +kernel
theorem dX2_mayPass_1 : decode cX2_mayPass 1 = .ok (.getfield 21, 3) := by decide +kernel
theorem dX2_mayPass_4 : decode cX2_mayPass 4 = .ok (.iload_n 1, 1) := by decide +kernel
theorem dX2_mayPass_5 : decode cX2_mayPass 5 = .ok (.invokevirtual 146, 3) := by decide +kernel
theorem dX2_mayPass_8 : decode cX2_mayPass 8 = .ok (.istore_n 3, 1) := by decide +kernel
theorem dX2_mayPass_9 : decode cX2_mayPass 9 = .ok (.aload_n 0, 1) := by decide +kernel
theorem dX2_mayPass_10 : decode cX2_mayPass 10 = .ok (.getfield 21, 3) := by decide +kernel
theorem dX2_mayPass_13 : decode cX2_mayPass 13 = .ok (.iload_n 1, 1) := by decide +kernel
theorem dX2_mayPass_14 : decode cX2_mayPass 14 = .ok (.invokevirtual 153, 3) := by decide +kernel
theorem dX2_mayPass_17 : decode cX2_mayPass 17 = .ok (.istore 4, 2) := by decide +kernel
theorem dX2_mayPass_19 : decode cX2_mayPass 19 = .ok (.iload_n 3, 1) := by decide +kernel
theorem dX2_mayPass_20 : decode cX2_mayPass 20 = .ok (.invokestatic 68, 3) := by decide +kernel
theorem dX2_mayPass_23 : decode cX2_mayPass 23 = .ok (.ifCond .eq 60, 3) := by decide +kernel
theorem dX2_mayPass_26 : decode cX2_mayPass 26 = .ok (.aload_n 0, 1) := by decide +kernel
theorem dX2_mayPass_27 : decode cX2_mayPass 27 = .ok (.getfield 12, 3) := by decide +kernel
theorem dX2_mayPass_30 : decode cX2_mayPass 30 = .ok (.getfield 72, 3) := by decide +kernel
theorem dX2_mayPass_33 : decode cX2_mayPass 33 = .ok (.iload_n 3, 1) := by decide +kernel
theorem dX2_mayPass_34 : decode cX2_mayPass 34 = .ok (.baload, 1) := by decide +kernel
theorem dX2_mayPass_35 : decode cX2_mayPass 35 = .ok (.ifCond .eq 48, 3) := by decide +kernel
theorem dX2_mayPass_38 : decode cX2_mayPass 38 = .ok (.iload_n 2, 1) := by decide +kernel
theorem dX2_mayPass_39 : decode cX2_mayPass 39 = .ok (.iconst 1, 1) := by decide +kernel
theorem dX2_mayPass_40 : decode cX2_mayPass 40 = .ok (.iload_n 3, 1) := by decide +kernel
theorem dX2_mayPass_41 : decode cX2_mayPass 41 = .ok (.ishl, 1) := by decide +kernel
theorem dX2_mayPass_42 : decode cX2_mayPass 42 = .ok (.iand, 1) := by decide +kernel
theorem dX2_mayPass_43 : decode cX2_mayPass 43 = .ok (.ifCond .ne 40, 3) := by decide +kernel
theorem dX2_mayPass_46 : decode cX2_mayPass 46 = .ok (.aload_n 0, 1) := by decide +kernel
theorem dX2_mayPass_47 : decode cX2_mayPass 47 = .ok (.getfield 21, 3) := by decide +kernel
theorem dX2_mayPass_50 : decode cX2_mayPass 50 = .ok (.iload 4, 2) := by decide +kernel
theorem dX2_mayPass_52 : decode cX2_mayPass 52 = .ok (.invokevirtual 156, 3) := by decide +kernel
theorem dX2_mayPass_55 : decode cX2_mayPass 55 = .ok (.ifCond .eq 28, 3) := by decide +kernel
theorem dX2_mayPass_58 : decode cX2_mayPass 58 = .ok (.aload_n 0, 1) := by decide +kernel
theorem dX2_mayPass_59 : decode cX2_mayPass 59 = .ok (.getfield 12, 3) := by decide +kernel
theorem dX2_mayPass_62 : decode cX2_mayPass 62 = .ok (.iload 4, 2) := by decide +kernel
theorem dX2_mayPass_64 : decode cX2_mayPass 64 = .ok (.aload_n 0, 1) := by decide +kernel
theorem dX2_mayPass_65 : decode cX2_mayPass 65 = .ok (.getfield 21, 3) := by decide +kernel
theorem dX2_mayPass_68 : decode cX2_mayPass 68 = .ok (.getfield 159, 3) := by decide +kernel
theorem dX2_mayPass_71 : decode cX2_mayPass 71 = .ok (.iload_n 1, 1) := by decide +kernel
theorem dX2_mayPass_72 : decode cX2_mayPass 72 = .ok (.iaload, 1) := by decide +kernel
theorem dX2_mayPass_73 : decode cX2_mayPass 73 = .ok (.invokevirtual 162, 3) := by decide +kernel
theorem dX2_mayPass_76 : decode cX2_mayPass 76 = .ok (.ifCond .eq 7, 3) := by decide +kernel
theorem dX2_mayPass_79 : decode cX2_mayPass 79 = .ok (.iconst 1, 1) := by decide +kernel
theorem dX2_mayPass_80 : decode cX2_mayPass 80 = .ok (.goto 4, 3) := by decide +kernel
theorem dX2_mayPass_83 : decode cX2_mayPass 83 = .ok (.iconst 0, 1) := by decide +kernel
theorem dX2_mayPass_84 : decode cX2_mayPass 84 = .ok (.ireturn, 1) := by decide +kernel
theorem dX2_pass_0 : decode cX2_pass 0 = .ok (.aload_n 0, 1) := by decide +kernel
theorem dX2_pass_1 : decode cX2_pass 1 = .ok (.getfield 21, 3) := by decide +kernel
theorem dX2_pass_4 : decode cX2_pass 4 = .ok (.iload_n 1, 1) := by decide +kernel
theorem dX2_pass_5 : decode cX2_pass 5 = .ok (.invokevirtual 146, 3) := by decide +kernel
theorem dX2_pass_8 : decode cX2_pass 8 = .ok (.istore_n 2, 1) := by decide +kernel
theorem dX2_pass_9 : decode cX2_pass 9 = .ok (.aload_n 0, 1) := by decide +kernel
theorem dX2_pass_10 : decode cX2_pass 10 = .ok (.getfield 21, 3) := by decide +kernel
theorem dX2_pass_13 : decode cX2_pass 13 = .ok (.getfield 165, 3) := by decide +kernel
theorem dX2_pass_16 : decode cX2_pass 16 = .ok (.iload_n 1, 1) := by decide +kernel
theorem dX2_pass_17 : decode cX2_pass 17 = .ok (.aload_n 0, 1) := by decide +kernel
theorem dX2_pass_18 : decode cX2_pass 18 = .ok (.getfield 21, 3) := by decide +kernel
theorem dX2_pass_21 : decode cX2_pass 21 = .ok (.iload_n 1, 1) := by decide +kernel
theorem dX2_pass_22 : decode cX2_pass 22 = .ok (.invokevirtual 153, 3) := by decide +kernel
theorem dX2_pass_25 : decode cX2_pass 25 = .ok (.iastore, 1) := by decide +kernel
theorem dX2_pass_26 : decode cX2_pass 26 = .ok (.aload_n 0, 1) := by decide +kernel
theorem dX2_pass_27 : decode cX2_pass 27 = .ok (.getfield 21, 3) := by decide +kernel
theorem dX2_pass_30 : decode cX2_pass 30 = .ok (.iload_n 1, 1) := by decide +kernel
theorem dX2_pass_31 : decode cX2_pass 31 = .ok (.invokevirtual 168, 3) := by decide +kernel
theorem dX2_pass_34 : decode cX2_pass 34 = .ok (.ifCond .eq 45, 3) := by decide +kernel
theorem dX2_pass_37 : decode cX2_pass 37 = .ok (.aload_n 0, 1) := by decide +kernel
theorem dX2_pass_38 : decode cX2_pass 38 = .ok (.getfield 21, 3) := by decide +kernel
theorem dX2_pass_41 : decode cX2_pass 41 = .ok (.getfield 171, 3) := by decide +kernel
theorem dX2_pass_44 : decode cX2_pass 44 = .ok (.aload_n 0, 1) := by decide +kernel
theorem dX2_pass_45 : decode cX2_pass 45 = .ok (.getfield 21, 3) := by decide +kernel
theorem dX2_pass_48 : decode cX2_pass 48 = .ok (.getfield 139, 3) := by decide +kernel
theorem dX2_pass_51 : decode cX2_pass 51 = .ok (.iload_n 1, 1) := by decide +kernel
theorem dX2_pass_52 : decode cX2_pass 52 = .ok (.iaload, 1) := by decide +kernel
theorem dX2_pass_53 : decode cX2_pass 53 = .ok (.dup2, 1) := by decide +kernel
theorem dX2_pass_54 : decode cX2_pass 54 = .ok (.iaload, 1) := by decide +kernel
theorem dX2_pass_55 : decode cX2_pass 55 = .ok (.iconst 1, 1) := by decide +kernel
theorem dX2_pass_56 : decode cX2_pass 56 = .ok (.iadd, 1) := by decide +kernel
theorem dX2_pass_57 : decode cX2_pass 57 = .ok (.iastore, 1) := by decide +kernel
theorem dX2_pass_58 : decode cX2_pass 58 = .ok (.aload_n 0, 1) := by decide +kernel
theorem dX2_pass_59 : decode cX2_pass 59 = .ok (.getfield 28, 3) := by decide +kernel
theorem dX2_pass_62 : decode cX2_pass 62 = .ok (.bipush 108, 2) := by decide +kernel
theorem dX2_pass_64 : decode cX2_pass 64 = .ok (.aload_n 0, 1) := by decide +kernel
theorem dX2_pass_65 : decode cX2_pass 65 = .ok (.getfield 21, 3) := by decide +kernel
theorem dX2_pass_68 : decode cX2_pass 68 = .ok (.getfield 159, 3) := by decide +kernel
theorem dX2_pass_71 : decode cX2_pass 71 = .ok (.iload_n 1, 1) := by decide +kernel
theorem dX2_pass_72 : decode cX2_pass 72 = .ok (.iaload, 1) := by decide +kernel
theorem dX2_pass_73 : decode cX2_pass 73 = .ok (.invokevirtual 132, 3) := by decide +kernel
theorem dX2_pass_76 : decode cX2_pass 76 = .ok (.goto 13, 3) := by decide +kernel
theorem dX2_pass_79 : decode cX2_pass 79 = .ok (.aload_n 0, 1) := by decide +kernel
theorem dX2_pass_80 : decode cX2_pass 80 = .ok (.getfield 28, 3) := by decide +kernel
theorem dX2_pass_83 : decode cX2_pass 83 = .ok (.bipush 112, 2) := by decide +kernel
theorem dX2_pass_85 : decode cX2_pass 85 = .ok (.iload_n 2, 1) := by decide +kernel
theorem dX2_pass_86 : decode cX2_pass 86 = .ok (.invokevirtual 132, 3) := by decide +kernel
theorem dX2_pass_89 : decode cX2_pass 89 = .ok (.return_, 1) := by decide +kernel
theorem dX3_init_0 : decode cX3_init 0 = .ok (.aload_n 0, 1) := by decide +kernel
theorem dX3_init_1 : decode cX3_init 1 = .ok (.invokespecial 3, 3) := by decide +kernel
theorem dX3_init_4 : decode cX3_init 4 = .ok (.aload_n 0, 1) := by decide +kernel
theorem dX3_init_5 : decode cX3_init 5 = .ok (.bipush 8, 2) := by decide +kernel
theorem dX3_init_7 : decode cX3_init 7 = .ok (.anewarray 9, 3) := by decide +kernel
theorem dX3_init_10 : decode cX3_init 10 = .ok (.putfield 11, 3) := by decide +kernel
theorem dX3_init_13 : decode cX3_init 13 = .ok (.aload_n 0, 1) := by decide +kernel
theorem dX3_init_14 : decode cX3_init 14 = .ok (.iconst 0, 1) := by decide +kernel
theorem dX3_init_15 : decode cX3_init 15 = .ok (.putfield 17, 3) := by decide +kernel
theorem dX3_init_18 : decode cX3_init 18 = .ok (.aload_n 0, 1) := by decide +kernel
theorem dX3_init_19 : decode cX3_init 19 = .ok (.iconst 0, 1) := by decide +kernel
theorem dX3_init_20 : decode cX3_init 20 = .ok (.putfield 21, 3) := by decide +kernel
theorem dX3_init_23 : decode cX3_init 23 = .ok (.iconst 0, 1) := by decide +kernel
theorem dX3_init_24 : decode cX3_init 24 = .ok (.istore_n 1, 1) := by decide +kernel
theorem dX3_init_25 : decode cX3_init 25 = .ok (.iload_n 1, 1) := by decide +kernel
theorem dX3_init_26 : decode cX3_init 26 = .ok (.bipush 8, 2) := by decide +kernel
theorem dX3_init_28 : decode cX3_init 28 = .ok (.if_icmp .ge 22, 3) := by decide +kernel
theorem dX3_init_31 : decode cX3_init 31 = .ok (.aload_n 0, 1) := by decide +kernel
theorem dX3_init_32 : decode cX3_init 32 = .ok (.getfield 11, 3) := by decide +kernel
theorem dX3_init_35 : decode cX3_init 35 = .ok (.iload_n 1, 1) := by decide +kernel
theorem dX3_init_36 : decode cX3_init 36 = .ok (.new 9, 3) := by decide +kernel
theorem dX3_init_39 : decode cX3_init 39 = .ok (.dup, 1) := by decide +kernel
theorem dX3_init_40 : decode cX3_init 40 = .ok (.invokespecial 24, 3) := by decide +kernel
theorem dX3_init_43 : decode cX3_init 43 = .ok (.aastore, 1) := by decide +kernel
theorem dX3_init_44 : decode cX3_init 44 = .ok (.iinc 1 1, 3) := by decide +kernel
theorem dX3_init_47 : decode cX3_init 47 = .ok (.goto (-22), 3) := by decide +kernel
theorem dX3_init_50 : decode cX3_init 50 = .ok (.return_, 1) := by decide +kernel
theorem dX3_push_0 : decode cX3_push 0 = .ok (.aload_n 0, 1) := by decide +kernel
theorem dX3_push_1 : decode cX3_push 1 = .ok (.getfield 11, 3) := by decide +kernel
theorem dX3_push_4 : decode cX3_push 4 = .ok (.aload_n 0, 1) := by decide +kernel
theorem dX3_push_5 : decode cX3_push 5 = .ok (.getfield 17, 3) := by decide +kernel
theorem dX3_push_8 : decode cX3_push 8 = .ok (.aaload, 1) := by decide +kernel
theorem dX3_push_9 : decode cX3_push 9 = .ok (.aload_n 1, 1) := by decide +kernel
theorem dX3_push_10 : decode cX3_push 10 = .ok (.invokevirtual 25, 3) := by decide +kernel
theorem dX3_push_13 : decode cX3_push 13 = .ok (.aload_n 0, 1) := by decide +kernel
theorem dX3_push_14 : decode cX3_push 14 = .ok (.aload_n 0, 1) := by decide +kernel
theorem dX3_push_15 : decode cX3_push 15 = .ok (.getfield 17, 3) := by decide +kernel
theorem dX3_push_18 : decode cX3_push 18 = .ok (.iconst 1, 1) := by decide +kernel
theorem dX3_push_19 : decode cX3_push 19 = .ok (.iadd, 1) := by decide +kernel
theorem dX3_push_20 : decode cX3_push 20 = .ok (.bipush 8, 2) := by decide +kernel
theorem dX3_push_22 : decode cX3_push 22 = .ok (.irem, 1) := by decide +kernel
theorem dX3_push_23 : decode cX3_push 23 = .ok (.putfield 17, 3) := by decide +kernel
theorem dX3_push_26 : decode cX3_push 26 = .ok (.aload_n 0, 1) := by decide +kernel
theorem dX3_push_27 : decode cX3_push 27 = .ok (.aload_n 0, 1) := by decide +kernel
theorem dX3_push_28 : decode cX3_push 28 = .ok (.getfield 21, 3) := by decide +kernel
theorem dX3_push_31 : decode cX3_push 31 = .ok (.iconst 1, 1) := by decide +kernel
theorem dX3_push_32 : decode cX3_push 32 = .ok (.iadd, 1) := by decide +kernel
theorem dX3_push_33 : decode cX3_push 33 = .ok (.bipush 8, 2) := by decide +kernel
theorem dX3_push_35 : decode cX3_push 35 = .ok (.invokestatic 29, 3) := by decide +kernel
theorem dX3_push_38 : decode cX3_push 38 = .ok (.putfield 21, 3) := by decide +kernel
theorem dX3_push_41 : decode cX3_push 41 = .ok (.return_, 1) := by decide +kernel
theorem dX3_popInto_0 : decode cX3_popInto 0 = .ok (.aload_n 0, 1) := by decide +kernel
theorem dX3_popInto_1 : decode cX3_popInto 1 = .ok (.aload_n 0, 1) := by decide +kernel
theorem dX3_popInto_2 : decode cX3_popInto 2 = .ok (.getfield 17, 3) := by decide +kernel
theorem dX3_popInto_5 : decode cX3_popInto 5 = .ok (.bipush 8, 2) := by decide +kernel
theorem dX3_popInto_7 : decode cX3_popInto 7 = .ok (.iadd, 1) := by decide +kernel
theorem dX3_popInto_8 : decode cX3_popInto 8 = .ok (.iconst 1, 1) := by decide +kernel
theorem dX3_popInto_9 : decode cX3_popInto 9 = .ok (.isub, 1) := by decide +kernel
theorem dX3_popInto_10 : decode cX3_popInto 10 = .ok (.bipush 8, 2) := by decide +kernel
theorem dX3_popInto_12 : decode cX3_popInto 12 = .ok (.irem, 1) := by decide +kernel
theorem dX3_popInto_13 : decode cX3_popInto 13 = .ok (.putfield 17, 3) := by decide +kernel
theorem dX3_popInto_16 : decode cX3_popInto 16 = .ok (.aload_n 1, 1) := by decide +kernel
theorem dX3_popInto_17 : decode cX3_popInto 17 = .ok (.aload_n 0, 1) := by decide +kernel
theorem dX3_popInto_18 : decode cX3_popInto 18 = .ok (.getfield 11, 3) := by decide +kernel
theorem dX3_popInto_21 : decode cX3_popInto 21 = .ok (.aload_n 0, 1) := by decide +kernel
theorem dX3_popInto_22 : decode cX3_popInto 22 = .ok (.getfield 17, 3) := by decide +kernel
theorem dX3_popInto_25 : decode cX3_popInto 25 = .ok (.aaload, 1) := by decide +kernel
theorem dX3_popInto_26 : decode cX3_popInto 26 = .ok (.invokevirtual 25, 3) := by decide +kernel
theorem dX3_popInto_29 : decode cX3_popInto 29 = .ok (.aload_n 0, 1) := by decide +kernel
theorem dX3_popInto_30 : decode cX3_popInto 30 = .ok (.dup, 1) := by decide +kernel
theorem dX3_popInto_31 : decode cX3_popInto 31 = .ok (.getfield 21, 3) := by decide +kernel
theorem dX3_popInto_34 : decode cX3_popInto 34 = .ok (.iconst 1, 1) := by decide +kernel
theorem dX3_popInto_35 : decode cX3_popInto 35 = .ok (.isub, 1) := by decide +kernel
theorem dX3_popInto_36 : decode cX3_popInto 36 = .ok (.putfield 21, 3) := by decide +kernel
theorem dX3_popInto_39 : decode cX3_popInto 39 = .ok (.return_, 1) := by decide +kernel
theorem dX4_init_0 : decode cX4_init 0 = .ok (.aload_n 0, 1) := by decide +kernel
theorem dX4_init_1 : decode cX4_init 1 = .ok (.invokespecial 3, 3) := by decide +kernel
theorem dX4_init_4 : decode cX4_init 4 = .ok (.aload_n 0, 1) := by decide +kernel
theorem dX4_init_5 : decode cX4_init 5 = .ok (.bipush 60, 2) := by decide +kernel
theorem dX4_init_7 : decode cX4_init 7 = .ok (.newarray .char, 2) := by decide +kernel
theorem dX4_init_9 : decode cX4_init 9 = .ok (.putfield 9, 3) := by decide +kernel
theorem dX4_init_12 : decode cX4_init 12 = .ok (.aload_n 0, 1) := by decide +kernel
theorem dX4_init_13 : decode cX4_init 13 = .ok (.iconst 0, 1) := by decide +kernel
theorem dX4_init_14 : decode cX4_init 14 = .ok (.putfield 15, 3) := by decide +kernel
theorem dX4_init_17 : decode cX4_init 17 = .ok (.aload_n 0, 1) := by decide +kernel
theorem dX4_init_18 : decode cX4_init 18 = .ok (.iconst 0, 1) := by decide +kernel
theorem dX4_init_19 : decode cX4_init 19 = .ok (.putfield 19, 3) := by decide +kernel
theorem dX4_init_22 : decode cX4_init 22 = .ok (.aload_n 0, 1) := by decide +kernel
theorem dX4_init_23 : decode cX4_init 23 = .ok (.iconst 0, 1) := by decide +kernel
theorem dX4_init_24 : decode cX4_init 24 = .ok (.putfield 22, 3) := by decide +kernel
theorem dX4_init_27 : decode cX4_init 27 = .ok (.aload_n 0, 1) := by decide +kernel
theorem dX4_init_28 : decode cX4_init 28 = .ok (.iconst 0, 1) := by decide +kernel
theorem dX4_init_29 : decode cX4_init 29 = .ok (.putfield 26, 3) := by decide +kernel
theorem dX4_init_32 : decode cX4_init 32 = .ok (.aload_n 0, 1) := by decide +kernel
theorem dX4_init_33 : decode cX4_init 33 = .ok (.bipush 60, 2) := by decide +kernel
theorem dX4_init_35 : decode cX4_init 35 = .ok (.newarray .int, 2) := by decide +kernel
theorem dX4_init_37 : decode cX4_init 37 = .ok (.putfield 29, 3) := by decide +kernel
theorem dX4_init_40 : decode cX4_init 40 = .ok (.aload_n 0, 1) := by decide +kernel
theorem dX4_init_41 : decode cX4_init 41 = .ok (.bipush 60, 2) := by decide +kernel
theorem dX4_init_43 : decode cX4_init 43 = .ok (.newarray .int, 2) := by decide +kernel
theorem dX4_init_45 : decode cX4_init 45 = .ok (.putfield 33, 3) := by decide +kernel
theorem dX4_init_48 : decode cX4_init 48 = .ok (.aload_n 0, 1) := by decide +kernel
theorem dX4_init_49 : decode cX4_init 49 = .ok (.bipush 60, 2) := by decide +kernel
theorem dX4_init_51 : decode cX4_init 51 = .ok (.newarray .int, 2) := by decide +kernel
theorem dX4_init_53 : decode cX4_init 53 = .ok (.putfield 36, 3) := by decide +kernel
theorem dX4_init_56 : decode cX4_init 56 = .ok (.aload_n 0, 1) := by decide +kernel
theorem dX4_init_57 : decode cX4_init 57 = .ok (.bipush 60, 2) := by decide +kernel
theorem dX4_init_59 : decode cX4_init 59 = .ok (.newarray .int, 2) := by decide +kernel
theorem dX4_init_61 : decode cX4_init 61 = .ok (.putfield 39, 3) := by decide +kernel
theorem dX4_init_64 : decode cX4_init 64 = .ok (.return_, 1) := by decide +kernel
theorem dX4_readAll_0 : decode cX4_readAll 0 = .ok (.aload_n 0, 1) := by decide +kernel
theorem dX4_readAll_1 : decode cX4_readAll 1 = .ok (.iconst 0, 1) := by decide +kernel
theorem dX4_readAll_2 : decode cX4_readAll 2 = .ok (.putfield 19, 3) := by decide +kernel
theorem dX4_readAll_5 : decode cX4_readAll 5 = .ok (.aload_n 0, 1) := by decide +kernel
theorem dX4_readAll_6 : decode cX4_readAll 6 = .ok (.iconst 0, 1) := by decide +kernel
theorem dX4_readAll_7 : decode cX4_readAll 7 = .ok (.putfield 26, 3) := by decide +kernel
theorem dX4_readAll_10 : decode cX4_readAll 10 = .ok (.aload_n 0, 1) := by decide +kernel
theorem dX4_readAll_11 : decode cX4_readAll 11 = .ok (.getfield 26, 3) := by decide +kernel
theorem dX4_readAll_14 : decode cX4_readAll 14 = .ok (.bipush 60, 2) := by decide +kernel
theorem dX4_readAll_16 : decode cX4_readAll 16 = .ok (.if_icmp .ge 44, 3) := by decide +kernel
theorem dX4_readAll_19 : decode cX4_readAll 19 = .ok (.aload_n 0, 1) := by decide +kernel
theorem dX4_readAll_20 : decode cX4_readAll 20 = .ok (.invokevirtual 42, 3) := by decide +kernel
theorem dX4_readAll_23 : decode cX4_readAll 23 = .ok (.ifCond .eq 37, 3) := by decide +kernel
theorem dX4_readAll_26 : decode cX4_readAll 26 = .ok (.aload_n 0, 1) := by decide +kernel
theorem dX4_readAll_27 : decode cX4_readAll 27 = .ok (.dup, 1) := by decide +kernel
theorem dX4_readAll_28 : decode cX4_readAll 28 = .ok (.getfield 26, 3) := by decide +kernel
theorem dX4_readAll_31 : decode cX4_readAll 31 = .ok (.iconst 1, 1) := by decide +kernel
theorem dX4_readAll_32 : decode cX4_readAll 32 = .ok (.iadd, 1) := by decide +kernel
theorem dX4_readAll_33 : decode cX4_readAll 33 = .ok (.putfield 26, 3) := by decide +kernel
theorem dX4_readAll_36 : decode cX4_readAll 36 = .ok (.aload_n 0, 1) := by decide +kernel
theorem dX4_readAll_37 : decode cX4_readAll 37 = .ok (.getfield 19, 3) := by decide +kernel
theorem dX4_readAll_40 : decode cX4_readAll 40 = .ok (.aload_n 0, 1) := by decide +kernel
theorem dX4_readAll_41 : decode cX4_readAll 41 = .ok (.getfield 15, 3) := by decide +kernel
theorem dX4_readAll_44 : decode cX4_readAll 44 = .ok (.if_icmp .ne 5, 3) := by decide +kernel
theorem dX4_readAll_47 : decode cX4_readAll 47 = .ok (.iconst 1, 1) := by decide +kernel
theorem dX4_readAll_48 : decode cX4_readAll 48 = .ok (.ireturn, 1) := by decide +kernel
theorem dX4_readAll_49 : decode cX4_readAll 49 = .ok (.aload_n 0, 1) := by decide +kernel
theorem dX4_readAll_50 : decode cX4_readAll 50 = .ok (.ldc 46, 2) := by decide +kernel
theorem dX4_readAll_52 : decode cX4_readAll 52 = .ok (.invokevirtual 48, 3) := by decide +kernel
theorem dX4_readAll_55 : decode cX4_readAll 55 = .ok (.ifCond .ne (-45), 3) := by decide +kernel
theorem dX4_readAll_58 : decode cX4_readAll 58 = .ok (.iconst 0, 1) := by decide +kernel
theorem dX4_readAll_59 : decode cX4_readAll 59 = .ok (.ireturn, 1) := by decide +kernel
theorem dX4_readAll_60 : decode cX4_readAll 60 = .ok (.iconst 0, 1) := by decide +kernel
theorem dX4_readAll_61 : decode cX4_readAll 61 = .ok (.ireturn, 1) := by decide +kernel
theorem dX4_readCommand_0 : decode cX4_readCommand 0 = .ok (.aload_n 0, 1) := by decide +kernel
theorem dX4_readCommand_1 : decode cX4_readCommand 1 = .ok (.getfield 19, 3) := by decide +kernel
theorem dX4_readCommand_4 : decode cX4_readCommand 4 = .ok (.aload_n 0, 1) := by decide +kernel
theorem dX4_readCommand_5 : decode cX4_readCommand 5 = .ok (.getfield 15, 3) := by decide +kernel
theorem dX4_readCommand_8 : decode cX4_readCommand 8 = .ok (.if_icmp .lt 5, 3) := by decide +kernel
theorem dX4_readCommand_11 : decode cX4_readCommand 11 = .ok (.iconst 0, 1) := by decide +kernel
theorem dX4_readCommand_12 : decode cX4_readCommand 12 = .ok (.ireturn, 1) := by decide +kernel
theorem dX4_readCommand_13 : decode cX4_readCommand 13 = .ok (.aload_n 0, 1) := by decide +kernel
theorem dX4_readCommand_14 : decode cX4_readCommand 14 = .ok (.getfield 29, 3) := by decide +kernel
theorem dX4_readCommand_17 : decode cX4_readCommand 17 = .ok (.aload_n 0, 1) := by decide +kernel
theorem dX4_readCommand_18 : decode cX4_readCommand 18 = .ok (.getfield 26, 3) := by decide +kernel
theorem dX4_readCommand_21 : decode cX4_readCommand 21 = .ok (.aload_n 0, 1) := by decide +kernel
theorem dX4_readCommand_22 : decode cX4_readCommand 22 = .ok (.getfield 9, 3) := by decide +kernel
theorem dX4_readCommand_25 : decode cX4_readCommand 25 = .ok (.aload_n 0, 1) := by decide +kernel
theorem dX4_readCommand_26 : decode cX4_readCommand 26 = .ok (.getfield 19, 3) := by decide +kernel
theorem dX4_readCommand_29 : decode cX4_readCommand 29 = .ok (.caload, 1) := by decide +kernel
theorem dX4_readCommand_30 : decode cX4_readCommand 30 = .ok (.iastore, 1) := by decide +kernel
theorem dX4_readCommand_31 : decode cX4_readCommand 31 = .ok (.aload_n 0, 1) := by decide +kernel
theorem dX4_readCommand_32 : decode cX4_readCommand 32 = .ok (.getfield 29, 3) := by decide +kernel
theorem dX4_readCommand_35 : decode cX4_readCommand 35 = .ok (.aload_n 0, 1) := by decide +kernel
theorem dX4_readCommand_36 : decode cX4_readCommand 36 = .ok (.getfield 26, 3) := by decide +kernel
theorem dX4_readCommand_39 : decode cX4_readCommand 39 = .ok (.iaload, 1) := by decide +kernel
theorem dX4_readCommand_40 : decode cX4_readCommand 40 = .ok (.tableswitch 207 98 119 #[104, 207, 180, 207, 207, 207, 207, 207, 207, 207, 207, 207, 207, 114, 207, 207, 158, 136, 207, 207, 109, 202], 104) := by decide +kernel
theorem dX4_readCommand_144 : decode cX4_readCommand 144 = .ok (.aload_n 0, 1) := by decide +kernel
theorem dX4_readCommand_145 : decode cX4_readCommand 145 = .ok (.invokevirtual 52, 3) := by decide +kernel
theorem dX4_readCommand_148 : decode cX4_readCommand 148 = .ok (.ireturn, 1) := by decide +kernel
theorem dX4_readCommand_149 : decode cX4_readCommand 149 = .ok (.aload_n 0, 1) := by decide +kernel
theorem dX4_readCommand_150 : decode cX4_readCommand 150 = .ok (.invokevirtual 55, 3) := by decide +kernel
theorem dX4_readCommand_153 : decode cX4_readCommand 153 = .ok (.ireturn, 1) := by decide +kernel
theorem dX4_readCommand_154 : decode cX4_readCommand 154 = .ok (.aload_n 0, 1) := by decide +kernel
theorem dX4_readCommand_155 : decode cX4_readCommand 155 = .ok (.ldc 58, 2) := by decide +kernel
theorem dX4_readCommand_157 : decode cX4_readCommand 157 = .ok (.invokevirtual 60, 3) := by decide +kernel
theorem dX4_readCommand_160 : decode cX4_readCommand 160 = .ok (.ifCond .eq 14, 3) := by decide +kernel
theorem dX4_readCommand_163 : decode cX4_readCommand 163 = .ok (.aload_n 0, 1) := by decide +kernel
theorem dX4_readCommand_164 : decode cX4_readCommand 164 = .ok (.invokevirtual 63, 3) := by decide +kernel
theorem dX4_readCommand_167 : decode cX4_readCommand 167 = .ok (.ifCond .eq 7, 3) := by decide +kernel
theorem dX4_readCommand_170 : decode cX4_readCommand 170 = .ok (.iconst 1, 1) := by decide +kernel
theorem dX4_readCommand_171 : decode cX4_readCommand 171 = .ok (.goto 4, 3) := by decide +kernel
theorem dX4_readCommand_174 : decode cX4_readCommand 174 = .ok (.iconst 0, 1) := by decide +kernel
theorem dX4_readCommand_175 : decode cX4_readCommand 175 = .ok (.ireturn, 1) := by decide +kernel
theorem dX4_readCommand_176 : decode cX4_readCommand 176 = .ok (.aload_n 0, 1) := by decide +kernel
theorem dX4_readCommand_177 : decode cX4_readCommand 177 = .ok (.ldc 66, 2) := by decide +kernel
theorem dX4_readCommand_179 : decode cX4_readCommand 179 = .ok (.invokevirtual 60, 3) := by decide +kernel
theorem dX4_readCommand_182 : decode cX4_readCommand 182 = .ok (.ifCond .eq 14, 3) := by decide +kernel
theorem dX4_readCommand_185 : decode cX4_readCommand 185 = .ok (.aload_n 0, 1) := by decide +kernel
theorem dX4_readCommand_186 : decode cX4_readCommand 186 = .ok (.invokevirtual 63, 3) := by decide +kernel
theorem dX4_readCommand_189 : decode cX4_readCommand 189 = .ok (.ifCond .eq 7, 3) := by decide +kernel
theorem dX4_readCommand_192 : decode cX4_readCommand 192 = .ok (.iconst 1, 1) := by decide +kernel
theorem dX4_readCommand_193 : decode cX4_readCommand 193 = .ok (.goto 4, 3) := by decide +kernel
theorem dX4_readCommand_196 : decode cX4_readCommand 196 = .ok (.iconst 0, 1) := by decide +kernel
theorem dX4_readCommand_197 : decode cX4_readCommand 197 = .ok (.ireturn, 1) := by decide +kernel
theorem dX4_readCommand_198 : decode cX4_readCommand 198 = .ok (.aload_n 0, 1) := by decide +kernel
theorem dX4_readCommand_199 : decode cX4_readCommand 199 = .ok (.ldc 68, 2) := by decide +kernel
theorem dX4_readCommand_201 : decode cX4_readCommand 201 = .ok (.invokevirtual 60, 3) := by decide +kernel
theorem dX4_readCommand_204 : decode cX4_readCommand 204 = .ok (.ifCond .eq 14, 3) := by decide +kernel
theorem dX4_readCommand_207 : decode cX4_readCommand 207 = .ok (.aload_n 0, 1) := by decide +kernel
theorem dX4_readCommand_208 : decode cX4_readCommand 208 = .ok (.invokevirtual 63, 3) := by decide +kernel
theorem dX4_readCommand_211 : decode cX4_readCommand 211 = .ok (.ifCond .eq 7, 3) := by decide +kernel
theorem dX4_readCommand_214 : decode cX4_readCommand 214 = .ok (.iconst 1, 1) := by decide +kernel
theorem dX4_readCommand_215 : decode cX4_readCommand 215 = .ok (.goto 4, 3) := by decide +kernel
theorem dX4_readCommand_218 : decode cX4_readCommand 218 = .ok (.iconst 0, 1) := by decide +kernel
theorem dX4_readCommand_219 : decode cX4_readCommand 219 = .ok (.ireturn, 1) := by decide +kernel
theorem dX4_readCommand_220 : decode cX4_readCommand 220 = .ok (.aload_n 0, 1) := by decide +kernel
theorem dX4_readCommand_221 : decode cX4_readCommand 221 = .ok (.ldc 70, 2) := by decide +kernel
theorem dX4_readCommand_223 : decode cX4_readCommand 223 = .ok (.invokevirtual 60, 3) := by decide +kernel
theorem dX4_readCommand_226 : decode cX4_readCommand 226 = .ok (.ifCond .eq 14, 3) := by decide +kernel
theorem dX4_readCommand_229 : decode cX4_readCommand 229 = .ok (.aload_n 0, 1) := by decide +kernel
theorem dX4_readCommand_230 : decode cX4_readCommand 230 = .ok (.invokevirtual 63, 3) := by decide +kernel
theorem dX4_readCommand_233 : decode cX4_readCommand 233 = .ok (.ifCond .eq 7, 3) := by decide +kernel
theorem dX4_readCommand_236 : decode cX4_readCommand 236 = .ok (.iconst 1, 1) := by decide +kernel
theorem dX4_readCommand_237 : decode cX4_readCommand 237 = .ok (.goto 4, 3) := by decide +kernel
theorem dX4_readCommand_240 : decode cX4_readCommand 240 = .ok (.iconst 0, 1) := by decide +kernel
theorem dX4_readCommand_241 : decode cX4_readCommand 241 = .ok (.ireturn, 1) := by decide +kernel
theorem dX4_readCommand_242 : decode cX4_readCommand 242 = .ok (.aload_n 0, 1) := by decide +kernel
theorem dX4_readCommand_243 : decode cX4_readCommand 243 = .ok (.invokevirtual 72, 3) := by decide +kernel
theorem dX4_readCommand_246 : decode cX4_readCommand 246 = .ok (.ireturn, 1) := by decide +kernel
theorem dX4_readCommand_247 : decode cX4_readCommand 247 = .ok (.iconst 0, 1) := by decide +kernel
theorem dX4_readCommand_248 : decode cX4_readCommand 248 = .ok (.ireturn, 1) := by decide +kernel
theorem dX4_readBoat_0 : decode cX4_readBoat 0 = .ok (.aload_n 0, 1) := by decide +kernel
theorem dX4_readBoat_1 : decode cX4_readBoat 1 = .ok (.ldc 75, 2) := by decide +kernel
theorem dX4_readBoat_3 : decode cX4_readBoat 3 = .ok (.invokevirtual 60, 3) := by decide +kernel
theorem dX4_readBoat_6 : decode cX4_readBoat 6 = .ok (.ifCond .eq 12, 3) := by decide +kernel
theorem dX4_readBoat_9 : decode cX4_readBoat 9 = .ok (.aload_n 0, 1) := by decide +kernel
theorem dX4_readBoat_10 : decode cX4_readBoat 10 = .ok (.ldc 77, 2) := by decide +kernel
theorem dX4_readBoat_12 : decode cX4_readBoat 12 = .ok (.invokevirtual 48, 3) := by decide +kernel
theorem dX4_readBoat_15 : decode cX4_readBoat 15 = .ok (.ifCond .ne 5, 3) := by decide +kernel
theorem dX4_readBoat_18 : decode cX4_readBoat 18 = .ok (.iconst 0, 1) := by decide +kernel
theorem dX4_readBoat_19 : decode cX4_readBoat 19 = .ok (.ireturn, 1) := by decide +kernel
theorem dX4_readBoat_20 : decode cX4_readBoat 20 = .ok (.aload_n 0, 1) := by decide +kernel
theorem dX4_readBoat_21 : decode cX4_readBoat 21 = .ok (.getfield 33, 3) := by decide +kernel
theorem dX4_readBoat_24 : decode cX4_readBoat 24 = .ok (.aload_n 0, 1) := by decide +kernel
theorem dX4_readBoat_25 : decode cX4_readBoat 25 = .ok (.getfield 26, 3) := by decide +kernel
theorem dX4_readBoat_28 : decode cX4_readBoat 28 = .ok (.aload_n 0, 1) := by decide +kernel
theorem dX4_readBoat_29 : decode cX4_readBoat 29 = .ok (.getfield 22, 3) := by decide +kernel
theorem dX4_readBoat_32 : decode cX4_readBoat 32 = .ok (.iastore, 1) := by decide +kernel
theorem dX4_readBoat_33 : decode cX4_readBoat 33 = .ok (.aload_n 0, 1) := by decide +kernel
theorem dX4_readBoat_34 : decode cX4_readBoat 34 = .ok (.ldc 79, 2) := by decide +kernel
theorem dX4_readBoat_36 : decode cX4_readBoat 36 = .ok (.invokevirtual 48, 3) := by decide +kernel
theorem dX4_readBoat_39 : decode cX4_readBoat 39 = .ok (.ifCond .ne 5, 3) := by decide +kernel
theorem dX4_readBoat_42 : decode cX4_readBoat 42 = .ok (.iconst 0, 1) := by decide +kernel
theorem dX4_readBoat_43 : decode cX4_readBoat 43 = .ok (.ireturn, 1) := by decide +kernel
theorem dX4_readBoat_44 : decode cX4_readBoat 44 = .ok (.aload_n 0, 1) := by decide +kernel
theorem dX4_readBoat_45 : decode cX4_readBoat 45 = .ok (.getfield 36, 3) := by decide +kernel
theorem dX4_readBoat_48 : decode cX4_readBoat 48 = .ok (.aload_n 0, 1) := by decide +kernel
theorem dX4_readBoat_49 : decode cX4_readBoat 49 = .ok (.getfield 26, 3) := by decide +kernel
theorem dX4_readBoat_52 : decode cX4_readBoat 52 = .ok (.aload_n 0, 1) := by decide +kernel
theorem dX4_readBoat_53 : decode cX4_readBoat 53 = .ok (.getfield 22, 3) := by decide +kernel
theorem dX4_readBoat_56 : decode cX4_readBoat 56 = .ok (.bipush 48, 2) := by decide +kernel
theorem dX4_readBoat_58 : decode cX4_readBoat 58 = .ok (.isub, 1) := by decide +kernel
theorem dX4_readBoat_59 : decode cX4_readBoat 59 = .ok (.iastore, 1) := by decide +kernel
theorem dX4_readBoat_60 : decode cX4_readBoat 60 = .ok (.aload_n 0, 1) := by decide +kernel
theorem dX4_readBoat_61 : decode cX4_readBoat 61 = .ok (.ldc 81, 2) := by decide +kernel
theorem dX4_readBoat_63 : decode cX4_readBoat 63 = .ok (.invokevirtual 48, 3) := by decide +kernel
theorem dX4_readBoat_66 : decode cX4_readBoat 66 = .ok (.ifCond .eq 12, 3) := by decide +kernel
theorem dX4_readBoat_69 : decode cX4_readBoat 69 = .ok (.aload_n 0, 1) := by decide +kernel
theorem dX4_readBoat_70 : decode cX4_readBoat 70 = .ok (.ldc 83, 2) := by decide +kernel
theorem dX4_readBoat_72 : decode cX4_readBoat 72 = .ok (.invokevirtual 48, 3) := by decide +kernel
theorem dX4_readBoat_75 : decode cX4_readBoat 75 = .ok (.ifCond .ne 5, 3) := by decide +kernel
theorem dX4_readBoat_78 : decode cX4_readBoat 78 = .ok (.iconst 0, 1) := by decide +kernel
theorem dX4_readBoat_79 : decode cX4_readBoat 79 = .ok (.ireturn, 1) := by decide +kernel
theorem dX4_readBoat_80 : decode cX4_readBoat 80 = .ok (.aload_n 0, 1) := by decide +kernel
theorem dX4_readBoat_81 : decode cX4_readBoat 81 = .ok (.getfield 39, 3) := by decide +kernel
theorem dX4_readBoat_84 : decode cX4_readBoat 84 = .ok (.aload_n 0, 1) := by decide +kernel
theorem dX4_readBoat_85 : decode cX4_readBoat 85 = .ok (.getfield 26, 3) := by decide +kernel
theorem dX4_readBoat_88 : decode cX4_readBoat 88 = .ok (.aload_n 0, 1) := by decide +kernel
theorem dX4_readBoat_89 : decode cX4_readBoat 89 = .ok (.getfield 22, 3) := by decide +kernel
theorem dX4_readBoat_92 : decode cX4_readBoat 92 = .ok (.bipush 100, 2) := by decide +kernel
theorem dX4_readBoat_94 : decode cX4_readBoat 94 = .ok (.if_icmp .ne 7, 3) := by decide +kernel
theorem dX4_readBoat_97 : decode cX4_readBoat 97 = .ok (.iconst 1, 1) := by decide +kernel
theorem dX4_readBoat_98 : decode cX4_readBoat 98 = .ok (.goto 4, 3) := by decide +kernel
theorem dX4_readBoat_101 : decode cX4_readBoat 101 = .ok (.iconst 0, 1) := by decide +kernel
theorem dX4_readBoat_102 : decode cX4_readBoat 102 = .ok (.iastore, 1) := by decide +kernel
theorem dX4_readBoat_103 : decode cX4_readBoat 103 = .ok (.iconst 1, 1) := by decide +kernel
theorem dX4_readBoat_104 : decode cX4_readBoat 104 = .ok (.ireturn, 1) := by decide +kernel
theorem dX4_readValve_0 : decode cX4_readValve 0 = .ok (.aload_n 0, 1) := by decide +kernel
theorem dX4_readValve_1 : decode cX4_readValve 1 = .ok (.ldc 85, 2) := by decide +kernel
theorem dX4_readValve_3 : decode cX4_readValve 3 = .ok (.invokevirtual 60, 3) := by decide +kernel
theorem dX4_readValve_6 : decode cX4_readValve 6 = .ok (.ifCond .eq 28, 3) := by decide +kernel
theorem dX4_readValve_9 : decode cX4_readValve 9 = .ok (.aload_n 0, 1) := by decide +kernel
theorem dX4_readValve_10 : decode cX4_readValve 10 = .ok (.invokevirtual 63, 3) := by decide +kernel
theorem dX4_readValve_13 : decode cX4_readValve 13 = .ok (.ifCond .eq 21, 3) := by decide +kernel
theorem dX4_readValve_16 : decode cX4_readValve 16 = .ok (.aload_n 0, 1) := by decide +kernel
theorem dX4_readValve_17 : decode cX4_readValve 17 = .ok (.ldc 81, 2) := by decide +kernel
theorem dX4_readValve_19 : decode cX4_readValve 19 = .ok (.invokevirtual 48, 3) := by decide +kernel
theorem dX4_readValve_22 : decode cX4_readValve 22 = .ok (.ifCond .eq 12, 3) := by decide +kernel
theorem dX4_readValve_25 : decode cX4_readValve 25 = .ok (.aload_n 0, 1) := by decide +kernel
theorem dX4_readValve_26 : decode cX4_readValve 26 = .ok (.ldc 79, 2) := by decide +kernel
theorem dX4_readValve_28 : decode cX4_readValve 28 = .ok (.invokevirtual 48, 3) := by decide +kernel
theorem dX4_readValve_31 : decode cX4_readValve 31 = .ok (.ifCond .ne 5, 3) := by decide +kernel
theorem dX4_readValve_34 : decode cX4_readValve 34 = .ok (.iconst 0, 1) := by decide +kernel
theorem dX4_readValve_35 : decode cX4_readValve 35 = .ok (.ireturn, 1) := by decide +kernel
theorem dX4_readValve_36 : decode cX4_readValve 36 = .ok (.aload_n 0, 1) := by decide +kernel
theorem dX4_readValve_37 : decode cX4_readValve 37 = .ok (.getfield 36, 3) := by decide +kernel
theorem dX4_readValve_40 : decode cX4_readValve 40 = .ok (.aload_n 0, 1) := by decide +kernel
theorem dX4_readValve_41 : decode cX4_readValve 41 = .ok (.getfield 26, 3) := by decide +kernel
theorem dX4_readValve_44 : decode cX4_readValve 44 = .ok (.aload_n 0, 1) := by decide +kernel
theorem dX4_readValve_45 : decode cX4_readValve 45 = .ok (.getfield 22, 3) := by decide +kernel
theorem dX4_readValve_48 : decode cX4_readValve 48 = .ok (.bipush 48, 2) := by decide +kernel
theorem dX4_readValve_50 : decode cX4_readValve 50 = .ok (.isub, 1) := by decide +kernel
theorem dX4_readValve_51 : decode cX4_readValve 51 = .ok (.iastore, 1) := by decide +kernel
theorem dX4_readValve_52 : decode cX4_readValve 52 = .ok (.iconst 1, 1) := by decide +kernel
theorem dX4_readValve_53 : decode cX4_readValve 53 = .ok (.ireturn, 1) := by decide +kernel
theorem dX4_readFirst_0 : decode cX4_readFirst 0 = .ok (.aload_n 0, 1) := by decide +kernel
theorem dX4_readFirst_1 : decode cX4_readFirst 1 = .ok (.ldc 79, 2) := by decide +kernel
theorem dX4_readFirst_3 : decode cX4_readFirst 3 = .ok (.invokevirtual 48, 3) := by decide +kernel
theorem dX4_readFirst_6 : decode cX4_readFirst 6 = .ok (.ifCond .ne 5, 3) := by decide +kernel
theorem dX4_readFirst_9 : decode cX4_readFirst 9 = .ok (.iconst 0, 1) := by decide +kernel
theorem dX4_readFirst_10 : decode cX4_readFirst 10 = .ok (.ireturn, 1) := by decide +kernel
theorem dX4_readFirst_11 : decode cX4_readFirst 11 = .ok (.aload_n 0, 1) := by decide +kernel
theorem dX4_readFirst_12 : decode cX4_readFirst 12 = .ok (.getfield 33, 3) := by decide +kernel
theorem dX4_readFirst_15 : decode cX4_readFirst 15 = .ok (.aload_n 0, 1) := by decide +kernel
theorem dX4_readFirst_16 : decode cX4_readFirst 16 = .ok (.getfield 26, 3) := by decide +kernel
theorem dX4_readFirst_19 : decode cX4_readFirst 19 = .ok (.aload_n 0, 1) := by decide +kernel
theorem dX4_readFirst_20 : decode cX4_readFirst 20 = .ok (.getfield 22, 3) := by decide +kernel
theorem dX4_readFirst_23 : decode cX4_readFirst 23 = .ok (.bipush 48, 2) := by decide +kernel
theorem dX4_readFirst_25 : decode cX4_readFirst 25 = .ok (.isub, 1) := by decide +kernel
theorem dX4_readFirst_26 : decode cX4_readFirst 26 = .ok (.iastore, 1) := by decide +kernel
theorem dX4_readFirst_27 : decode cX4_readFirst 27 = .ok (.iconst 1, 1) := by decide +kernel
theorem dX4_readFirst_28 : decode cX4_readFirst 28 = .ok (.ireturn, 1) := by decide +kernel
theorem dX4_readWait_0 : decode cX4_readWait 0 = .ok (.aload_n 0, 1) := by decide +kernel
theorem dX4_readWait_1 : decode cX4_readWait 1 = .ok (.ldc 87, 2) := by decide +kernel
theorem dX4_readWait_3 : decode cX4_readWait 3 = .ok (.invokevirtual 60, 3) := by decide +kernel
theorem dX4_readWait_6 : decode cX4_readWait 6 = .ok (.ifCond .ne 5, 3) := by decide +kernel
theorem dX4_readWait_9 : decode cX4_readWait 9 = .ok (.iconst 0, 1) := by decide +kernel
theorem dX4_readWait_10 : decode cX4_readWait 10 = .ok (.ireturn, 1) := by decide +kernel
theorem dX4_readWait_11 : decode cX4_readWait 11 = .ok (.aload_n 0, 1) := by decide +kernel
theorem dX4_readWait_12 : decode cX4_readWait 12 = .ok (.getfield 33, 3) := by decide +kernel
theorem dX4_readWait_15 : decode cX4_readWait 15 = .ok (.aload_n 0, 1) := by decide +kernel
theorem dX4_readWait_16 : decode cX4_readWait 16 = .ok (.getfield 26, 3) := by decide +kernel
theorem dX4_readWait_19 : decode cX4_readWait 19 = .ok (.iconst 1, 1) := by decide +kernel
theorem dX4_readWait_20 : decode cX4_readWait 20 = .ok (.iastore, 1) := by decide +kernel
theorem dX4_readWait_21 : decode cX4_readWait 21 = .ok (.aload_n 0, 1) := by decide +kernel
theorem dX4_readWait_22 : decode cX4_readWait 22 = .ok (.ldc 81, 2) := by decide +kernel
theorem dX4_readWait_24 : decode cX4_readWait 24 = .ok (.invokevirtual 48, 3) := by decide +kernel
theorem dX4_readWait_27 : decode cX4_readWait 27 = .ok (.ifCond .ne 5, 3) := by decide +kernel
theorem dX4_readWait_30 : decode cX4_readWait 30 = .ok (.iconst 1, 1) := by decide +kernel
theorem dX4_readWait_31 : decode cX4_readWait 31 = .ok (.ireturn, 1) := by decide +kernel
theorem dX4_readWait_32 : decode cX4_readWait 32 = .ok (.aload_n 0, 1) := by decide +kernel
theorem dX4_readWait_33 : decode cX4_readWait 33 = .ok (.invokevirtual 63, 3) := by decide +kernel
theorem dX4_readWait_36 : decode cX4_readWait 36 = .ok (.ifCond .ne 5, 3) := by decide +kernel
theorem dX4_readWait_39 : decode cX4_readWait 39 = .ok (.iconst 0, 1) := by decide +kernel
theorem dX4_readWait_40 : decode cX4_readWait 40 = .ok (.ireturn, 1) := by decide +kernel
theorem dX4_readWait_41 : decode cX4_readWait 41 = .ok (.iconst 1, 1) := by decide +kernel
theorem dX4_readWait_42 : decode cX4_readWait 42 = .ok (.istore_n 1, 1) := by decide +kernel
theorem dX4_readWait_43 : decode cX4_readWait 43 = .ok (.iload_n 1, 1) := by decide +kernel
theorem dX4_readWait_44 : decode cX4_readWait 44 = .ok (.iconst 3, 1) := by decide +kernel
theorem dX4_readWait_45 : decode cX4_readWait 45 = .ok (.if_icmp .ge 47, 3) := by decide +kernel
theorem dX4_readWait_48 : decode cX4_readWait 48 = .ok (.aload_n 0, 1) := by decide +kernel
theorem dX4_readWait_49 : decode cX4_readWait 49 = .ok (.ldc 79, 2) := by decide +kernel
theorem dX4_readWait_51 : decode cX4_readWait 51 = .ok (.invokevirtual 48, 3) := by decide +kernel
theorem dX4_readWait_54 : decode cX4_readWait 54 = .ok (.ifCond .eq 38, 3) := by decide +kernel
theorem dX4_readWait_57 : decode cX4_readWait 57 = .ok (.aload_n 0, 1) := by decide +kernel
theorem dX4_readWait_58 : decode cX4_readWait 58 = .ok (.getfield 33, 3) := by decide +kernel
theorem dX4_readWait_61 : decode cX4_readWait 61 = .ok (.aload_n 0, 1) := by decide +kernel
theorem dX4_readWait_62 : decode cX4_readWait 62 = .ok (.getfield 26, 3) := by decide +kernel
theorem dX4_readWait_65 : decode cX4_readWait 65 = .ok (.bipush 10, 2) := by decide +kernel
theorem dX4_readWait_67 : decode cX4_readWait 67 = .ok (.aload_n 0, 1) := by decide +kernel
theorem dX4_readWait_68 : decode cX4_readWait 68 = .ok (.getfield 33, 3) := by decide +kernel
theorem dX4_readWait_71 : decode cX4_readWait 71 = .ok (.aload_n 0, 1) := by decide +kernel
theorem dX4_readWait_72 : decode cX4_readWait 72 = .ok (.getfield 26, 3) := by decide +kernel
theorem dX4_readWait_75 : decode cX4_readWait 75 = .ok (.iaload, 1) := by decide +kernel
theorem dX4_readWait_76 : decode cX4_readWait 76 = .ok (.imul, 1) := by decide +kernel
theorem dX4_readWait_77 : decode cX4_readWait 77 = .ok (.aload_n 0, 1) := by decide +kernel
theorem dX4_readWait_78 : decode cX4_readWait 78 = .ok (.getfield 22, 3) := by decide +kernel
theorem dX4_readWait_81 : decode cX4_readWait 81 = .ok (.iadd, 1) := by decide +kernel
theorem dX4_readWait_82 : decode cX4_readWait 82 = .ok (.bipush 48, 2) := by decide +kernel
theorem dX4_readWait_84 : decode cX4_readWait 84 = .ok (.isub, 1) := by decide +kernel
theorem dX4_readWait_85 : decode cX4_readWait 85 = .ok (.iastore, 1) := by decide +kernel
theorem dX4_readWait_86 : decode cX4_readWait 86 = .ok (.iinc 1 1, 3) := by decide +kernel
theorem dX4_readWait_89 : decode cX4_readWait 89 = .ok (.goto (-46), 3) := by decide +kernel
theorem dX4_readWait_92 : decode cX4_readWait 92 = .ok (.iconst 1, 1) := by decide +kernel
theorem dX4_readWait_93 : decode cX4_readWait 93 = .ok (.ireturn, 1) := by decide +kernel
theorem dX4_readWord_0 : decode cX4_readWord 0 = .ok (.iconst 0, 1) := by decide +kernel
theorem dX4_readWord_1 : decode cX4_readWord 1 = .ok (.istore_n 2, 1) := by decide +kernel
theorem dX4_readWord_2 : decode cX4_readWord 2 = .ok (.iload_n 2, 1) := by decide +kernel
theorem dX4_readWord_3 : decode cX4_readWord 3 = .ok (.aload_n 1, 1) := by decide +kernel
theorem dX4_readWord_4 : decode cX4_readWord 4 = .ok (.invokevirtual 89, 3) := by decide +kernel
theorem dX4_readWord_7 : decode cX4_readWord 7 = .ok (.if_icmp .ge 49, 3) := by decide +kernel
theorem dX4_readWord_10 : decode cX4_readWord 10 = .ok (.aload_n 0, 1) := by decide +kernel
theorem dX4_readWord_11 : decode cX4_readWord 11 = .ok (.getfield 19, 3) := by decide +kernel
theorem dX4_readWord_14 : decode cX4_readWord 14 = .ok (.aload_n 0, 1) := by decide +kernel
theorem dX4_readWord_15 : decode cX4_readWord 15 = .ok (.getfield 15, 3) := by decide +kernel
theorem dX4_readWord_18 : decode cX4_readWord 18 = .ok (.if_icmp .ge 20, 3) := by decide +kernel
theorem dX4_readWord_21 : decode cX4_readWord 21 = .ok (.aload_n 0, 1) := by decide +kernel
theorem dX4_readWord_22 : decode cX4_readWord 22 = .ok (.getfield 9, 3) := by decide +kernel
theorem dX4_readWord_25 : decode cX4_readWord 25 = .ok (.aload_n 0, 1) := by decide +kernel
theorem dX4_readWord_26 : decode cX4_readWord 26 = .ok (.getfield 19, 3) := by decide +kernel
theorem dX4_readWord_29 : decode cX4_readWord 29 = .ok (.caload, 1) := by decide +kernel
theorem dX4_readWord_30 : decode cX4_readWord 30 = .ok (.aload_n 1, 1) := by decide +kernel
theorem dX4_readWord_31 : decode cX4_readWord 31 = .ok (.iload_n 2, 1) := by decide +kernel
theorem dX4_readWord_32 : decode cX4_readWord 32 = .ok (.invokevirtual 94, 3) := by decide +kernel
theorem dX4_readWord_35 : decode cX4_readWord 35 = .ok (.if_icmp .eq 5, 3) := by decide +kernel
theorem dX4_readWord_38 : decode cX4_readWord 38 = .ok (.iconst 0, 1) := by decide +kernel
theorem dX4_readWord_39 : decode cX4_readWord 39 = .ok (.ireturn, 1) := by decide +kernel
theorem dX4_readWord_40 : decode cX4_readWord 40 = .ok (.aload_n 0, 1) := by decide +kernel
theorem dX4_readWord_41 : decode cX4_readWord 41 = .ok (.dup, 1) := by decide +kernel
theorem dX4_readWord_42 : decode cX4_readWord 42 = .ok (.getfield 19, 3) := by decide +kernel
theorem dX4_readWord_45 : decode cX4_readWord 45 = .ok (.iconst 1, 1) := by decide +kernel
theorem dX4_readWord_46 : decode cX4_readWord 46 = .ok (.iadd, 1) := by decide +kernel
theorem dX4_readWord_47 : decode cX4_readWord 47 = .ok (.putfield 19, 3) := by decide +kernel
theorem dX4_readWord_50 : decode cX4_readWord 50 = .ok (.iinc 2 1, 3) := by decide +kernel
theorem dX4_readWord_53 : decode cX4_readWord 53 = .ok (.goto (-51), 3) := by decide +kernel
theorem dX4_readWord_56 : decode cX4_readWord 56 = .ok (.iconst 1, 1) := by decide +kernel
theorem dX4_readWord_57 : decode cX4_readWord 57 = .ok (.ireturn, 1) := by decide +kernel
theorem dX4_readOneOf_0 : decode cX4_readOneOf 0 = .ok (.aload_n 0, 1) := by decide +kernel
theorem dX4_readOneOf_1 : decode cX4_readOneOf 1 = .ok (.getfield 19, 3) := by decide +kernel
theorem dX4_readOneOf_4 : decode cX4_readOneOf 4 = .ok (.aload_n 0, 1) := by decide +kernel
theorem dX4_readOneOf_5 : decode cX4_readOneOf 5 = .ok (.getfield 15, 3) := by decide +kernel
theorem dX4_readOneOf_8 : decode cX4_readOneOf 8 = .ok (.if_icmp .ge 19, 3) := by decide +kernel
theorem dX4_readOneOf_11 : decode cX4_readOneOf 11 = .ok (.aload_n 1, 1) := by decide +kernel
theorem dX4_readOneOf_12 : decode cX4_readOneOf 12 = .ok (.aload_n 0, 1) := by decide +kernel
theorem dX4_readOneOf_13 : decode cX4_readOneOf 13 = .ok (.getfield 9, 3) := by decide +kernel
theorem dX4_readOneOf_16 : decode cX4_readOneOf 16 = .ok (.aload_n 0, 1) := by decide +kernel
theorem dX4_readOneOf_17 : decode cX4_readOneOf 17 = .ok (.getfield 19, 3) := by decide +kernel
theorem dX4_readOneOf_20 : decode cX4_readOneOf 20 = .ok (.caload, 1) := by decide +kernel
theorem dX4_readOneOf_21 : decode cX4_readOneOf 21 = .ok (.invokevirtual 98, 3) := by decide +kernel
theorem dX4_readOneOf_24 : decode cX4_readOneOf 24 = .ok (.ifCond .ge 5, 3) := by decide +kernel
theorem dX4_readOneOf_27 : decode cX4_readOneOf 27 = .ok (.iconst 0, 1) := by decide +kernel
theorem dX4_readOneOf_28 : decode cX4_readOneOf 28 = .ok (.ireturn, 1) := by decide +kernel
theorem dX4_readOneOf_29 : decode cX4_readOneOf 29 = .ok (.aload_n 0, 1) := by decide +kernel
theorem dX4_readOneOf_30 : decode cX4_readOneOf 30 = .ok (.aload_n 0, 1) := by decide +kernel
theorem dX4_readOneOf_31 : decode cX4_readOneOf 31 = .ok (.getfield 9, 3) := by decide +kernel
theorem dX4_readOneOf_34 : decode cX4_readOneOf 34 = .ok (.aload_n 0, 1) := by decide +kernel
theorem dX4_readOneOf_35 : decode cX4_readOneOf 35 = .ok (.getfield 19, 3) := by decide +kernel
theorem dX4_readOneOf_38 : decode cX4_readOneOf 38 = .ok (.caload, 1) := by decide +kernel
theorem dX4_readOneOf_39 : decode cX4_readOneOf 39 = .ok (.putfield 22, 3) := by decide +kernel
theorem dX4_readOneOf_42 : decode cX4_readOneOf 42 = .ok (.aload_n 0, 1) := by decide +kernel
theorem dX4_readOneOf_43 : decode cX4_readOneOf 43 = .ok (.dup, 1) := by decide +kernel
theorem dX4_readOneOf_44 : decode cX4_readOneOf 44 = .ok (.getfield 19, 3) := by decide +kernel
theorem dX4_readOneOf_47 : decode cX4_readOneOf 47 = .ok (.iconst 1, 1) := by decide +kernel
theorem dX4_readOneOf_48 : decode cX4_readOneOf 48 = .ok (.iadd, 1) := by decide +kernel
theorem dX4_readOneOf_49 : decode cX4_readOneOf 49 = .ok (.putfield 19, 3) := by decide +kernel
theorem dX4_readOneOf_52 : decode cX4_readOneOf 52 = .ok (.iconst 1, 1) := by decide +kernel
theorem dX4_readOneOf_53 : decode cX4_readOneOf 53 = .ok (.ireturn, 1) := by decide +kernel
theorem dX5_init_0 : decode cX5_init 0 = .ok (.aload_n 0, 1) := by decide +kernel
theorem dX5_init_1 : decode cX5_init 1 = .ok (.invokespecial 3, 3) := by decide +kernel
theorem dX5_init_4 : decode cX5_init 4 = .ok (.aload_n 0, 1) := by decide +kernel
theorem dX5_init_5 : decode cX5_init 5 = .ok (.iconst 5, 1) := by decide +kernel
theorem dX5_init_6 : decode cX5_init 6 = .ok (.newarray .int, 2) := by decide +kernel
theorem dX5_init_8 : decode cX5_init 8 = .ok (.putfield 9, 3) := by decide +kernel
theorem dX5_init_11 : decode cX5_init 11 = .ok (.aload_n 0, 1) := by decide +kernel
theorem dX5_init_12 : decode cX5_init 12 = .ok (.iconst 4, 1) := by decide +kernel
theorem dX5_init_13 : decode cX5_init 13 = .ok (.newarray .int, 2) := by decide +kernel
theorem dX5_init_15 : decode cX5_init 15 = .ok (.putfield 15, 3) := by decide +kernel
theorem dX5_init_18 : decode cX5_init 18 = .ok (.aload_n 0, 1) := by decide +kernel
theorem dX5_init_19 : decode cX5_init 19 = .ok (.iconst 4, 1) := by decide +kernel
theorem dX5_init_20 : decode cX5_init 20 = .ok (.newarray .boolean, 2) := by decide +kernel
theorem dX5_init_22 : decode cX5_init 22 = .ok (.putfield 18, 3) := by decide +kernel
theorem dX5_init_25 : decode cX5_init 25 = .ok (.aload_n 0, 1) := by decide +kernel
theorem dX5_init_26 : decode cX5_init 26 = .ok (.iconst 0, 1) := by decide +kernel
theorem dX5_init_27 : decode cX5_init 27 = .ok (.putfield 22, 3) := by decide +kernel
theorem dX5_init_30 : decode cX5_init 30 = .ok (.aload_n 0, 1) := by decide +kernel
theorem dX5_init_31 : decode cX5_init 31 = .ok (.iconst 0, 1) := by decide +kernel
theorem dX5_init_32 : decode cX5_init 32 = .ok (.putfield 26, 3) := by decide +kernel
theorem dX5_init_35 : decode cX5_init 35 = .ok (.aload_n 0, 1) := by decide +kernel
theorem dX5_init_36 : decode cX5_init 36 = .ok (.iconst 0, 1) := by decide +kernel
theorem dX5_init_37 : decode cX5_init 37 = .ok (.putfield 29, 3) := by decide +kernel
theorem dX5_init_40 : decode cX5_init 40 = .ok (.aload_n 0, 1) := by decide +kernel
theorem dX5_init_41 : decode cX5_init 41 = .ok (.iconst 0, 1) := by decide +kernel
theorem dX5_init_42 : decode cX5_init 42 = .ok (.putfield 32, 3) := by decide +kernel
theorem dX5_init_45 : decode cX5_init 45 = .ok (.aload_n 0, 1) := by decide +kernel
theorem dX5_init_46 : decode cX5_init 46 = .ok (.iconst 0, 1) := by decide +kernel
theorem dX5_init_47 : decode cX5_init 47 = .ok (.putfield 35, 3) := by decide +kernel
theorem dX5_init_50 : decode cX5_init 50 = .ok (.iconst 0, 1) := by decide +kernel
theorem dX5_init_51 : decode cX5_init 51 = .ok (.istore_n 1, 1) := by decide +kernel
theorem dX5_init_52 : decode cX5_init 52 = .ok (.iload_n 1, 1) := by decide +kernel
theorem dX5_init_53 : decode cX5_init 53 = .ok (.iconst 5, 1) := by decide +kernel
theorem dX5_init_54 : decode cX5_init 54 = .ok (.if_icmp .ge 20, 3) := by decide +kernel
theorem dX5_init_57 : decode cX5_init 57 = .ok (.aload_n 0, 1) := by decide +kernel
theorem dX5_init_58 : decode cX5_init 58 = .ok (.getfield 9, 3) := by decide +kernel
theorem dX5_init_61 : decode cX5_init 61 = .ok (.iload_n 1, 1) := by decide +kernel
theorem dX5_init_62 : decode cX5_init 62 = .ok (.getstatic 38, 3) := by decide +kernel
theorem dX5_init_65 : decode cX5_init 65 = .ok (.iload_n 1, 1) := by decide +kernel
theorem dX5_init_66 : decode cX5_init 66 = .ok (.iaload, 1) := by decide +kernel
theorem dX5_init_67 : decode cX5_init 67 = .ok (.iastore, 1) := by decide +kernel
theorem dX5_init_68 : decode cX5_init 68 = .ok (.iinc 1 1, 3) := by decide +kernel
theorem dX5_init_71 : decode cX5_init 71 = .ok (.goto (-19), 3) := by decide +kernel
theorem dX5_init_74 : decode cX5_init 74 = .ok (.return_, 1) := by decide +kernel
theorem dX5_copyWater_0 : decode cX5_copyWater 0 = .ok (.iconst 0, 1) := by decide +kernel
theorem dX5_copyWater_1 : decode cX5_copyWater 1 = .ok (.istore_n 2, 1) := by decide +kernel
theorem dX5_copyWater_2 : decode cX5_copyWater 2 = .ok (.iload_n 2, 1) := by decide +kernel
theorem dX5_copyWater_3 : decode cX5_copyWater 3 = .ok (.iconst 5, 1) := by decide +kernel
theorem dX5_copyWater_4 : decode cX5_copyWater 4 = .ok (.if_icmp .ge 21, 3) := by decide +kernel
theorem dX5_copyWater_7 : decode cX5_copyWater 7 = .ok (.aload_n 0, 1) := by decide +kernel
theorem dX5_copyWater_8 : decode cX5_copyWater 8 = .ok (.getfield 9, 3) := by decide +kernel
theorem dX5_copyWater_11 : decode cX5_copyWater 11 = .ok (.iload_n 2, 1) := by decide +kernel
theorem dX5_copyWater_12 : decode cX5_copyWater 12 = .ok (.aload_n 1, 1) := by decide +kernel
theorem dX5_copyWater_13 : decode cX5_copyWater 13 = .ok (.getfield 9, 3) := by decide +kernel
theorem dX5_copyWater_16 : decode cX5_copyWater 16 = .ok (.iload_n 2, 1) := by decide +kernel
theorem dX5_copyWater_17 : decode cX5_copyWater 17 = .ok (.iaload, 1) := by decide +kernel
theorem dX5_copyWater_18 : decode cX5_copyWater 18 = .ok (.iastore, 1) := by decide +kernel
theorem dX5_copyWater_19 : decode cX5_copyWater 19 = .ok (.iinc 2 1, 3) := by decide +kernel
theorem dX5_copyWater_22 : decode cX5_copyWater 22 = .ok (.goto (-20), 3) := by decide +kernel
theorem dX5_copyWater_25 : decode cX5_copyWater 25 = .ok (.iconst 0, 1) := by decide +kernel
theorem dX5_copyWater_26 : decode cX5_copyWater 26 = .ok (.istore_n 2, 1) := by decide +kernel
theorem dX5_copyWater_27 : decode cX5_copyWater 27 = .ok (.iload_n 2, 1) := by decide +kernel
theorem dX5_copyWater_28 : decode cX5_copyWater 28 = .ok (.iconst 4, 1) := by decide +kernel
theorem dX5_copyWater_29 : decode cX5_copyWater 29 = .ok (.if_icmp .ge 33, 3) := by decide +kernel
theorem dX5_copyWater_32 : decode cX5_copyWater 32 = .ok (.aload_n 0, 1) := by decide +kernel
theorem dX5_copyWater_33 : decode cX5_copyWater 33 = .ok (.getfield 15, 3) := by decide +kernel
theorem dX5_copyWater_36 : decode cX5_copyWater 36 = .ok (.iload_n 2, 1) := by decide +kernel
theorem dX5_copyWater_37 : decode cX5_copyWater 37 = .ok (.aload_n 1, 1) := by decide +kernel
theorem dX5_copyWater_38 : decode cX5_copyWater 38 = .ok (.getfield 15, 3) := by decide +kernel
theorem dX5_copyWater_41 : decode cX5_copyWater 41 = .ok (.iload_n 2, 1) := by decide +kernel
theorem dX5_copyWater_42 : decode cX5_copyWater 42 = .ok (.iaload, 1) := by decide +kernel
theorem dX5_copyWater_43 : decode cX5_copyWater 43 = .ok (.iastore, 1) := by decide +kernel
theorem dX5_copyWater_44 : decode cX5_copyWater 44 = .ok (.aload_n 0, 1) := by decide +kernel
theorem dX5_copyWater_45 : decode cX5_copyWater 45 = .ok (.getfield 18, 3) := by decide +kernel
theorem dX5_copyWater_48 : decode cX5_copyWater 48 = .ok (.iload_n 2, 1) := by decide +kernel
theorem dX5_copyWater_49 : decode cX5_copyWater 49 = .ok (.aload_n 1, 1) := by decide +kernel
theorem dX5_copyWater_50 : decode cX5_copyWater 50 = .ok (.getfield 18, 3) := by decide +kernel
theorem dX5_copyWater_53 : decode cX5_copyWater 53 = .ok (.iload_n 2, 1) := by decide +kernel
theorem dX5_copyWater_54 : decode cX5_copyWater 54 = .ok (.baload, 1) := by decide +kernel
theorem dX5_copyWater_55 : decode cX5_copyWater 55 = .ok (.bastore, 1) := by decide +kernel
theorem dX5_copyWater_56 : decode cX5_copyWater 56 = .ok (.iinc 2 1, 3) := by decide +kernel
theorem dX5_copyWater_59 : decode cX5_copyWater 59 = .ok (.goto (-32), 3) := by decide +kernel
theorem dX5_copyWater_62 : decode cX5_copyWater 62 = .ok (.aload_n 0, 1) := by decide +kernel
theorem dX5_copyWater_63 : decode cX5_copyWater 63 = .ok (.aload_n 1, 1) := by decide +kernel
theorem dX5_copyWater_64 : decode cX5_copyWater 64 = .ok (.getfield 22, 3) := by decide +kernel
theorem dX5_copyWater_67 : decode cX5_copyWater 67 = .ok (.putfield 22, 3) := by decide +kernel
theorem dX5_copyWater_70 : decode cX5_copyWater 70 = .ok (.aload_n 0, 1) := by decide +kernel
theorem dX5_copyWater_71 : decode cX5_copyWater 71 = .ok (.aload_n 1, 1) := by decide +kernel
theorem dX5_copyWater_72 : decode cX5_copyWater 72 = .ok (.getfield 26, 3) := by decide +kernel
theorem dX5_copyWater_75 : decode cX5_copyWater 75 = .ok (.putfield 26, 3) := by decide +kernel
theorem dX5_copyWater_78 : decode cX5_copyWater 78 = .ok (.aload_n 0, 1) := by decide +kernel
theorem dX5_copyWater_79 : decode cX5_copyWater 79 = .ok (.aload_n 1, 1) := by decide +kernel
theorem dX5_copyWater_80 : decode cX5_copyWater 80 = .ok (.getfield 29, 3) := by decide +kernel
theorem dX5_copyWater_83 : decode cX5_copyWater 83 = .ok (.putfield 29, 3) := by decide +kernel
theorem dX5_copyWater_86 : decode cX5_copyWater 86 = .ok (.aload_n 0, 1) := by decide +kernel
theorem dX5_copyWater_87 : decode cX5_copyWater 87 = .ok (.aload_n 1, 1) := by decide +kernel
theorem dX5_copyWater_88 : decode cX5_copyWater 88 = .ok (.getfield 32, 3) := by decide +kernel
theorem dX5_copyWater_91 : decode cX5_copyWater 91 = .ok (.putfield 32, 3) := by decide +kernel
theorem dX5_copyWater_94 : decode cX5_copyWater 94 = .ok (.aload_n 0, 1) := by decide +kernel
theorem dX5_copyWater_95 : decode cX5_copyWater 95 = .ok (.aload_n 1, 1) := by decide +kernel
theorem dX5_copyWater_96 : decode cX5_copyWater 96 = .ok (.getfield 35, 3) := by decide +kernel
theorem dX5_copyWater_99 : decode cX5_copyWater 99 = .ok (.putfield 35, 3) := by decide +kernel
theorem dX5_copyWater_102 : decode cX5_copyWater 102 = .ok (.return_, 1) := by decide +kernel
theorem dX5_roundedLevel_0 : decode cX5_roundedLevel 0 = .ok (.aload_n 0, 1) := by decide +kernel
theorem dX5_roundedLevel_1 : decode cX5_roundedLevel 1 = .ok (.getfield 9, 3) := by decide +kernel
theorem dX5_roundedLevel_4 : decode cX5_roundedLevel 4 = .ok (.iload_n 1, 1) := by decide +kernel
theorem dX5_roundedLevel_5 : decode cX5_roundedLevel 5 = .ok (.iaload, 1) := by decide +kernel
theorem dX5_roundedLevel_6 : decode cX5_roundedLevel 6 = .ok (.iload_n 1, 1) := by decide +kernel
theorem dX5_roundedLevel_7 : decode cX5_roundedLevel 7 = .ok (.invokestatic 41, 3) := by decide +kernel
theorem dX5_roundedLevel_10 : decode cX5_roundedLevel 10 = .ok (.idiv, 1) := by decide +kernel
theorem dX5_roundedLevel_11 : decode cX5_roundedLevel 11 = .ok (.ireturn, 1) := by decide +kernel
theorem dX5_difference_0 : decode cX5_difference 0 = .ok (.aload_n 0, 1) := by decide +kernel
theorem dX5_difference_1 : decode cX5_difference 1 = .ok (.getfield 9, 3) := by decide +kernel
theorem dX5_difference_4 : decode cX5_difference 4 = .ok (.iload_n 1, 1) := by decide +kernel
theorem dX5_difference_5 : decode cX5_difference 5 = .ok (.iaload, 1) := by decide +kernel
theorem dX5_difference_6 : decode cX5_difference 6 = .ok (.iload_n 2, 1) := by decide +kernel
theorem dX5_difference_7 : decode cX5_difference 7 = .ok (.invokestatic 41, 3) := by decide +kernel
theorem dX5_difference_10 : decode cX5_difference 10 = .ok (.imul, 1) := by decide +kernel
theorem dX5_difference_11 : decode cX5_difference 11 = .ok (.aload_n 0, 1) := by decide +kernel
theorem dX5_difference_12 : decode cX5_difference 12 = .ok (.getfield 9, 3) := by decide +kernel
theorem dX5_difference_15 : decode cX5_difference 15 = .ok (.iload_n 2, 1) := by decide +kernel
theorem dX5_difference_16 : decode cX5_difference 16 = .ok (.iaload, 1) := by decide +kernel
theorem dX5_difference_17 : decode cX5_difference 17 = .ok (.iload_n 1, 1) := by decide +kernel
theorem dX5_difference_18 : decode cX5_difference 18 = .ok (.invokestatic 41, 3) := by decide +kernel
theorem dX5_difference_21 : decode cX5_difference 21 = .ok (.imul, 1) := by decide +kernel
theorem dX5_difference_22 : decode cX5_difference 22 = .ok (.isub, 1) := by decide +kernel
theorem dX5_difference_23 : decode cX5_difference 23 = .ok (.ireturn, 1) := by decide +kernel
theorem dX5_reaches_0 : decode cX5_reaches 0 = .ok (.aload_n 0, 1) := by decide +kernel
theorem dX5_reaches_1 : decode cX5_reaches 1 = .ok (.getfield 9, 3) := by decide +kernel
theorem dX5_reaches_4 : decode cX5_reaches 4 = .ok (.iload_n 1, 1) := by decide +kernel
theorem dX5_reaches_5 : decode cX5_reaches 5 = .ok (.iaload, 1) := by decide +kernel
theorem dX5_reaches_6 : decode cX5_reaches 6 = .ok (.iload_n 2, 1) := by decide +kernel
theorem dX5_reaches_7 : decode cX5_reaches 7 = .ok (.iload_n 1, 1) := by decide +kernel
theorem dX5_reaches_8 : decode cX5_reaches 8 = .ok (.invokestatic 41, 3) := by decide +kernel
theorem dX5_reaches_11 : decode cX5_reaches 11 = .ok (.imul, 1) := by decide +kernel
theorem dX5_reaches_12 : decode cX5_reaches 12 = .ok (.if_icmp .lt 7, 3) := by decide +kernel
theorem dX5_reaches_15 : decode cX5_reaches 15 = .ok (.iconst 1, 1) := by decide +kernel
theorem dX5_reaches_16 : decode cX5_reaches 16 = .ok (.goto 4, 3) := by decide +kernel
theorem dX5_reaches_19 : decode cX5_reaches 19 = .ok (.iconst 0, 1) := by decide +kernel
theorem dX5_reaches_20 : decode cX5_reaches 20 = .ok (.ireturn, 1) := by decide +kernel
theorem dX5_amountByDivision_0 : decode cX5_amountByDivision 0 = .ok (.aload_n 0, 1) := by decide +kernel
theorem dX5_amountByDivision_1 : decode cX5_amountByDivision 1 = .ok (.iload_n 1, 1) := by decide +kernel
theorem dX5_amountByDivision_2 : decode cX5_amountByDivision 2 = .ok (.iload_n 1, 1) := by decide +kernel
theorem dX5_amountByDivision_3 : decode cX5_amountByDivision 3 = .ok (.iconst 1, 1) := by decide +kernel
theorem dX5_amountByDivision_4 : decode cX5_amountByDivision 4 = .ok (.iadd, 1) := by decide +kernel
theorem dX5_amountByDivision_5 : decode cX5_amountByDivision 5 = .ok (.invokevirtual 45, 3) := by decide +kernel
theorem dX5_amountByDivision_8 : decode cX5_amountByDivision 8 = .ok (.invokestatic 49, 3) := by decide +kernel
theorem dX5_amountByDivision_11 : decode cX5_amountByDivision 11 = .ok (.iload_n 1, 1) := by decide +kernel
theorem dX5_amountByDivision_12 : decode cX5_amountByDivision 12 = .ok (.invokestatic 41, 3) := by decide +kernel
theorem dX5_amountByDivision_15 : decode cX5_amountByDivision 15 = .ok (.iload_n 1, 1) := by decide +kernel
theorem dX5_amountByDivision_16 : decode cX5_amountByDivision 16 = .ok (.iconst 1, 1) := by decide +kernel
theorem dX5_amountByDivision_17 : decode cX5_amountByDivision 17 = .ok (.iadd, 1) := by decide +kernel
theorem dX5_amountByDivision_18 : decode cX5_amountByDivision 18 = .ok (.invokestatic 41, 3) := by decide +kernel
theorem dX5_amountByDivision_21 : decode cX5_amountByDivision 21 = .ok (.iadd, 1) := by decide +kernel
theorem dX5_amountByDivision_22 : decode cX5_amountByDivision 22 = .ok (.idiv, 1) := by decide +kernel
theorem dX5_amountByDivision_23 : decode cX5_amountByDivision 23 = .ok (.ireturn, 1) := by decide +kernel
theorem dX5_amountByLitres_0 : decode cX5_amountByLitres 0 = .ok (.aload_n 0, 1) := by decide +kernel
theorem dX5_amountByLitres_1 : decode cX5_amountByLitres 1 = .ok (.iload_n 1, 1) := by decide +kernel
theorem dX5_amountByLitres_2 : decode cX5_amountByLitres 2 = .ok (.iload_n 1, 1) := by decide +kernel
theorem dX5_amountByLitres_3 : decode cX5_amountByLitres 3 = .ok (.iconst 1, 1) := by decide +kernel
theorem dX5_amountByLitres_4 : decode cX5_amountByLitres 4 = .ok (.iadd, 1) := by decide +kernel
theorem dX5_amountByLitres_5 : decode cX5_amountByLitres 5 = .ok (.invokevirtual 45, 3) := by decide +kernel
theorem dX5_amountByLitres_8 : decode cX5_amountByLitres 8 = .ok (.ifCond .le 7, 3) := by decide +kernel
theorem dX5_amountByLitres_11 : decode cX5_amountByLitres 11 = .ok (.iconst 1, 1) := by decide +kernel
theorem dX5_amountByLitres_12 : decode cX5_amountByLitres 12 = .ok (.goto 4, 3) := by decide +kernel
theorem dX5_amountByLitres_15 : decode cX5_amountByLitres 15 = .ok (.iconst 0, 1) := by decide +kernel
theorem dX5_amountByLitres_16 : decode cX5_amountByLitres 16 = .ok (.istore_n 2, 1) := by decide +kernel
theorem dX5_amountByLitres_17 : decode cX5_amountByLitres 17 = .ok (.iload_n 2, 1) := by decide +kernel
theorem dX5_amountByLitres_18 : decode cX5_amountByLitres 18 = .ok (.ifCond .eq 7, 3) := by decide +kernel
theorem dX5_amountByLitres_21 : decode cX5_amountByLitres 21 = .ok (.iload_n 1, 1) := by decide +kernel
theorem dX5_amountByLitres_22 : decode cX5_amountByLitres 22 = .ok (.goto 6, 3) := by decide +kernel
theorem dX5_amountByLitres_25 : decode cX5_amountByLitres 25 = .ok (.iload_n 1, 1) := by decide +kernel
theorem dX5_amountByLitres_26 : decode cX5_amountByLitres 26 = .ok (.iconst 1, 1) := by decide +kernel
theorem dX5_amountByLitres_27 : decode cX5_amountByLitres 27 = .ok (.iadd, 1) := by decide +kernel
theorem dX5_amountByLitres_28 : decode cX5_amountByLitres 28 = .ok (.istore_n 3, 1) := by decide +kernel
theorem dX5_amountByLitres_29 : decode cX5_amountByLitres 29 = .ok (.iload_n 2, 1) := by decide +kernel
theorem dX5_amountByLitres_30 : decode cX5_amountByLitres 30 = .ok (.ifCond .eq 9, 3) := by decide +kernel
theorem dX5_amountByLitres_33 : decode cX5_amountByLitres 33 = .ok (.iload_n 1, 1) := by decide +kernel
theorem dX5_amountByLitres_34 : decode cX5_amountByLitres 34 = .ok (.iconst 1, 1) := by decide +kernel
theorem dX5_amountByLitres_35 : decode cX5_amountByLitres 35 = .ok (.iadd, 1) := by decide +kernel
theorem dX5_amountByLitres_36 : decode cX5_amountByLitres 36 = .ok (.goto 4, 3) := by decide +kernel
theorem dX5_amountByLitres_39 : decode cX5_amountByLitres 39 = .ok (.iload_n 1, 1) := by decide +kernel
theorem dX5_amountByLitres_40 : decode cX5_amountByLitres 40 = .ok (.istore 4, 2) := by decide +kernel
theorem dX5_amountByLitres_42 : decode cX5_amountByLitres 42 = .ok (.iconst 0, 1) := by decide +kernel
theorem dX5_amountByLitres_43 : decode cX5_amountByLitres 43 = .ok (.istore 5, 2) := by decide +kernel
theorem dX5_amountByLitres_45 : decode cX5_amountByLitres 45 = .ok (.iload 5, 2) := by decide +kernel
theorem dX5_amountByLitres_47 : decode cX5_amountByLitres 47 = .ok (.aload_n 0, 1) := by decide +kernel
theorem dX5_amountByLitres_48 : decode cX5_amountByLitres 48 = .ok (.getfield 9, 3) := by decide +kernel
theorem dX5_amountByLitres_51 : decode cX5_amountByLitres 51 = .ok (.iload_n 3, 1) := by decide +kernel
theorem dX5_amountByLitres_52 : decode cX5_amountByLitres 52 = .ok (.iaload, 1) := by decide +kernel
theorem dX5_amountByLitres_53 : decode cX5_amountByLitres 53 = .ok (.if_icmp .ge 23, 3) := by decide +kernel
theorem dX5_amountByLitres_56 : decode cX5_amountByLitres 56 = .ok (.aload_n 0, 1) := by decide +kernel
theorem dX5_amountByLitres_57 : decode cX5_amountByLitres 57 = .ok (.iload_n 3, 1) := by decide +kernel
theorem dX5_amountByLitres_58 : decode cX5_amountByLitres 58 = .ok (.iload 4, 2) := by decide +kernel
theorem dX5_amountByLitres_60 : decode cX5_amountByLitres 60 = .ok (.iload 5, 2) := by decide +kernel
theorem dX5_amountByLitres_62 : decode cX5_amountByLitres 62 = .ok (.iconst 1, 1) := by decide +kernel
theorem dX5_amountByLitres_63 : decode cX5_amountByLitres 63 = .ok (.iadd, 1) := by decide +kernel
theorem dX5_amountByLitres_64 : decode cX5_amountByLitres 64 = .ok (.invokevirtual 54, 3) := by decide +kernel
theorem dX5_amountByLitres_67 : decode cX5_amountByLitres 67 = .ok (.ifCond .eq 9, 3) := by decide +kernel
theorem dX5_amountByLitres_70 : decode cX5_amountByLitres 70 = .ok (.iinc 5 1, 3) := by decide +kernel
theorem dX5_amountByLitres_73 : decode cX5_amountByLitres 73 = .ok (.goto (-28), 3) := by decide +kernel
theorem dX5_amountByLitres_76 : decode cX5_amountByLitres 76 = .ok (.iload 5, 2) := by decide +kernel
theorem dX5_amountByLitres_78 : decode cX5_amountByLitres 78 = .ok (.ireturn, 1) := by decide +kernel
theorem dX5_staysBelow_0 : decode cX5_staysBelow 0 = .ok (.aload_n 0, 1) := by decide +kernel
theorem dX5_staysBelow_1 : decode cX5_staysBelow 1 = .ok (.getfield 9, 3) := by decide +kernel
theorem dX5_staysBelow_4 : decode cX5_staysBelow 4 = .ok (.iload_n 2, 1) := by decide +kernel
theorem dX5_staysBelow_5 : decode cX5_staysBelow 5 = .ok (.iaload, 1) := by decide +kernel
theorem dX5_staysBelow_6 : decode cX5_staysBelow 6 = .ok (.iload_n 3, 1) := by decide +kernel
theorem dX5_staysBelow_7 : decode cX5_staysBelow 7 = .ok (.iadd, 1) := by decide +kernel
theorem dX5_staysBelow_8 : decode cX5_staysBelow 8 = .ok (.iload_n 1, 1) := by decide +kernel
theorem dX5_staysBelow_9 : decode cX5_staysBelow 9 = .ok (.invokestatic 41, 3) := by decide +kernel
theorem dX5_staysBelow_12 : decode cX5_staysBelow 12 = .ok (.imul, 1) := by decide +kernel
theorem dX5_staysBelow_13 : decode cX5_staysBelow 13 = .ok (.aload_n 0, 1) := by decide +kernel
theorem dX5_staysBelow_14 : decode cX5_staysBelow 14 = .ok (.getfield 9, 3) := by decide +kernel
theorem dX5_staysBelow_17 : decode cX5_staysBelow 17 = .ok (.iload_n 1, 1) := by decide +kernel
theorem dX5_staysBelow_18 : decode cX5_staysBelow 18 = .ok (.iaload, 1) := by decide +kernel
theorem dX5_staysBelow_19 : decode cX5_staysBelow 19 = .ok (.iload_n 3, 1) := by decide +kernel
theorem dX5_staysBelow_20 : decode cX5_staysBelow 20 = .ok (.isub, 1) := by decide +kernel
theorem dX5_staysBelow_21 : decode cX5_staysBelow 21 = .ok (.iload_n 2, 1) := by decide +kernel
theorem dX5_staysBelow_22 : decode cX5_staysBelow 22 = .ok (.invokestatic 41, 3) := by decide +kernel
theorem dX5_staysBelow_25 : decode cX5_staysBelow 25 = .ok (.imul, 1) := by decide +kernel
theorem dX5_staysBelow_26 : decode cX5_staysBelow 26 = .ok (.if_icmp .gt 7, 3) := by decide +kernel
theorem dX5_staysBelow_29 : decode cX5_staysBelow 29 = .ok (.iconst 1, 1) := by decide +kernel
theorem dX5_staysBelow_30 : decode cX5_staysBelow 30 = .ok (.goto 4, 3) := by decide +kernel
theorem dX5_staysBelow_33 : decode cX5_staysBelow 33 = .ok (.iconst 0, 1) := by decide +kernel
theorem dX5_staysBelow_34 : decode cX5_staysBelow 34 = .ok (.ireturn, 1) := by decide +kernel
theorem dX5_flowDown_0 : decode cX5_flowDown 0 = .ok (.aload_n 0, 1) := by decide +kernel
theorem dX5_flowDown_1 : decode cX5_flowDown 1 = .ok (.iload_n 1, 1) := by decide +kernel
theorem dX5_flowDown_2 : decode cX5_flowDown 2 = .ok (.invokevirtual 58, 3) := by decide +kernel
theorem dX5_flowDown_5 : decode cX5_flowDown 5 = .ok (.istore_n 2, 1) := by decide +kernel
theorem dX5_flowDown_6 : decode cX5_flowDown 6 = .ok (.aload_n 0, 1) := by decide +kernel
theorem dX5_flowDown_7 : decode cX5_flowDown 7 = .ok (.getfield 18, 3) := by decide +kernel
theorem dX5_flowDown_10 : decode cX5_flowDown 10 = .ok (.iload_n 1, 1) := by decide +kernel
theorem dX5_flowDown_11 : decode cX5_flowDown 11 = .ok (.baload, 1) := by decide +kernel
theorem dX5_flowDown_12 : decode cX5_flowDown 12 = .ok (.ifCond .ne 16, 3) := by decide +kernel
theorem dX5_flowDown_15 : decode cX5_flowDown 15 = .ok (.iload_n 2, 1) := by decide +kernel
theorem dX5_flowDown_16 : decode cX5_flowDown 16 = .ok (.iconst 5, 1) := by decide +kernel
theorem dX5_flowDown_17 : decode cX5_flowDown 17 = .ok (.aload_n 0, 1) := by decide +kernel
theorem dX5_flowDown_18 : decode cX5_flowDown 18 = .ok (.getfield 15, 3) := by decide +kernel
theorem dX5_flowDown_21 : decode cX5_flowDown 21 = .ok (.iload_n 1, 1) := by decide +kernel
theorem dX5_flowDown_22 : decode cX5_flowDown 22 = .ok (.iaload, 1) := by decide +kernel
theorem dX5_flowDown_23 : decode cX5_flowDown 23 = .ok (.imul, 1) := by decide +kernel
theorem dX5_flowDown_24 : decode cX5_flowDown 24 = .ok (.invokestatic 61, 3) := by decide +kernel
theorem dX5_flowDown_27 : decode cX5_flowDown 27 = .ok (.istore_n 2, 1) := by decide +kernel
theorem dX5_flowDown_28 : decode cX5_flowDown 28 = .ok (.aload_n 0, 1) := by decide +kernel
theorem dX5_flowDown_29 : decode cX5_flowDown 29 = .ok (.iload_n 1, 1) := by decide +kernel
theorem dX5_flowDown_30 : decode cX5_flowDown 30 = .ok (.iload_n 1, 1) := by decide +kernel
theorem dX5_flowDown_31 : decode cX5_flowDown 31 = .ok (.iconst 1, 1) := by decide +kernel
theorem dX5_flowDown_32 : decode cX5_flowDown 32 = .ok (.iadd, 1) := by decide +kernel
theorem dX5_flowDown_33 : decode cX5_flowDown 33 = .ok (.invokevirtual 45, 3) := by decide +kernel
theorem dX5_flowDown_36 : decode cX5_flowDown 36 = .ok (.ifCond .le 7, 3) := by decide +kernel
theorem dX5_flowDown_39 : decode cX5_flowDown 39 = .ok (.iload_n 2, 1) := by decide +kernel
theorem dX5_flowDown_40 : decode cX5_flowDown 40 = .ok (.goto 5, 3) := by decide +kernel
theorem dX5_flowDown_43 : decode cX5_flowDown 43 = .ok (.iload_n 2, 1) := by decide +kernel
theorem dX5_flowDown_44 : decode cX5_flowDown 44 = .ok (.ineg, 1) := by decide +kernel
theorem dX5_flowDown_45 : decode cX5_flowDown 45 = .ok (.ireturn, 1) := by decide +kernel
theorem dX5_moveDown_0 : decode cX5_moveDown 0 = .ok (.aload_n 0, 1) := by decide +kernel
theorem dX5_moveDown_1 : decode cX5_moveDown 1 = .ok (.getfield 9, 3) := by decide +kernel
theorem dX5_moveDown_4 : decode cX5_moveDown 4 = .ok (.iload_n 1, 1) := by decide +kernel
theorem dX5_moveDown_5 : decode cX5_moveDown 5 = .ok (.dup2, 1) := by decide +kernel
theorem dX5_moveDown_6 : decode cX5_moveDown 6 = .ok (.iaload, 1) := by decide +kernel
theorem dX5_moveDown_7 : decode cX5_moveDown 7 = .ok (.iload_n 2, 1) := by decide +kernel
theorem dX5_moveDown_8 : decode cX5_moveDown 8 = .ok (.isub, 1) := by decide +kernel
theorem dX5_moveDown_9 : decode cX5_moveDown 9 = .ok (.iastore, 1) := by decide +kernel
theorem dX5_moveDown_10 : decode cX5_moveDown 10 = .ok (.aload_n 0, 1) := by decide +kernel
theorem dX5_moveDown_11 : decode cX5_moveDown 11 = .ok (.getfield 9, 3) := by decide +kernel
theorem dX5_moveDown_14 : decode cX5_moveDown 14 = .ok (.iload_n 1, 1) := by decide +kernel
theorem dX5_moveDown_15 : decode cX5_moveDown 15 = .ok (.iconst 1, 1) := by decide +kernel
theorem dX5_moveDown_16 : decode cX5_moveDown 16 = .ok (.iadd, 1) := by decide +kernel
theorem dX5_moveDown_17 : decode cX5_moveDown 17 = .ok (.dup2, 1) := by decide +kernel
theorem dX5_moveDown_18 : decode cX5_moveDown 18 = .ok (.iaload, 1) := by decide +kernel
theorem dX5_moveDown_19 : decode cX5_moveDown 19 = .ok (.iload_n 2, 1) := by decide +kernel
theorem dX5_moveDown_20 : decode cX5_moveDown 20 = .ok (.iadd, 1) := by decide +kernel
theorem dX5_moveDown_21 : decode cX5_moveDown 21 = .ok (.iastore, 1) := by decide +kernel
theorem dX5_moveDown_22 : decode cX5_moveDown 22 = .ok (.return_, 1) := by decide +kernel
theorem dX5_letRain_0 : decode cX5_letRain 0 = .ok (.sipush 400, 3) := by decide +kernel
theorem dX5_letRain_3 : decode cX5_letRain 3 = .ok (.aload_n 0, 1) := by decide +kernel
theorem dX5_letRain_4 : decode cX5_letRain 4 = .ok (.getfield 9, 3) := by decide +kernel
theorem dX5_letRain_7 : decode cX5_letRain 7 = .ok (.iconst 0, 1) := by decide +kernel
theorem dX5_letRain_8 : decode cX5_letRain 8 = .ok (.iaload, 1) := by decide +kernel
theorem dX5_letRain_9 : decode cX5_letRain 9 = .ok (.isub, 1) := by decide +kernel
theorem dX5_letRain_10 : decode cX5_letRain 10 = .ok (.istore_n 1, 1) := by decide +kernel
theorem dX5_letRain_11 : decode cX5_letRain 11 = .ok (.aload_n 0, 1) := by decide +kernel
theorem dX5_letRain_12 : decode cX5_letRain 12 = .ok (.getfield 22, 3) := by decide +kernel
theorem dX5_letRain_15 : decode cX5_letRain 15 = .ok (.iload_n 1, 1) := by decide +kernel
theorem dX5_letRain_16 : decode cX5_letRain 16 = .ok (.invokestatic 61, 3) := by decide +kernel
theorem dX5_letRain_19 : decode cX5_letRain 19 = .ok (.istore_n 2, 1) := by decide +kernel
theorem dX5_letRain_20 : decode cX5_letRain 20 = .ok (.aload_n 0, 1) := by decide +kernel
theorem dX5_letRain_21 : decode cX5_letRain 21 = .ok (.getfield 9, 3) := by decide +kernel
theorem dX5_letRain_24 : decode cX5_letRain 24 = .ok (.iconst 0, 1) := by decide +kernel
theorem dX5_letRain_25 : decode cX5_letRain 25 = .ok (.dup2, 1) := by decide +kernel
theorem dX5_letRain_26 : decode cX5_letRain 26 = .ok (.iaload, 1) := by decide +kernel
theorem dX5_letRain_27 : decode cX5_letRain 27 = .ok (.iload_n 2, 1) := by decide +kernel
theorem dX5_letRain_28 : decode cX5_letRain 28 = .ok (.iadd, 1) := by decide +kernel
theorem dX5_letRain_29 : decode cX5_letRain 29 = .ok (.iastore, 1) := by decide +kernel
theorem dX5_letRain_30 : decode cX5_letRain 30 = .ok (.aload_n 0, 1) := by decide +kernel
theorem dX5_letRain_31 : decode cX5_letRain 31 = .ok (.dup, 1) := by decide +kernel
theorem dX5_letRain_32 : decode cX5_letRain 32 = .ok (.getfield 29, 3) := by decide +kernel
theorem dX5_letRain_35 : decode cX5_letRain 35 = .ok (.aload_n 0, 1) := by decide +kernel
theorem dX5_letRain_36 : decode cX5_letRain 36 = .ok (.getfield 22, 3) := by decide +kernel
theorem dX5_letRain_39 : decode cX5_letRain 39 = .ok (.iadd, 1) := by decide +kernel
theorem dX5_letRain_40 : decode cX5_letRain 40 = .ok (.putfield 29, 3) := by decide +kernel
theorem dX5_letRain_43 : decode cX5_letRain 43 = .ok (.aload_n 0, 1) := by decide +kernel
theorem dX5_letRain_44 : decode cX5_letRain 44 = .ok (.dup, 1) := by decide +kernel
theorem dX5_letRain_45 : decode cX5_letRain 45 = .ok (.getfield 35, 3) := by decide +kernel
theorem dX5_letRain_48 : decode cX5_letRain 48 = .ok (.aload_n 0, 1) := by decide +kernel
theorem dX5_letRain_49 : decode cX5_letRain 49 = .ok (.getfield 22, 3) := by decide +kernel
theorem dX5_letRain_52 : decode cX5_letRain 52 = .ok (.iload_n 2, 1) := by decide +kernel
theorem dX5_letRain_53 : decode cX5_letRain 53 = .ok (.isub, 1) := by decide +kernel
theorem dX5_letRain_54 : decode cX5_letRain 54 = .ok (.iadd, 1) := by decide +kernel
theorem dX5_letRain_55 : decode cX5_letRain 55 = .ok (.putfield 35, 3) := by decide +kernel
theorem dX5_letRain_58 : decode cX5_letRain 58 = .ok (.aload_n 0, 1) := by decide +kernel
theorem dX5_letRain_59 : decode cX5_letRain 59 = .ok (.getfield 22, 3) := by decide +kernel
theorem dX5_letRain_62 : decode cX5_letRain 62 = .ok (.iload_n 2, 1) := by decide +kernel
theorem dX5_letRain_63 : decode cX5_letRain 63 = .ok (.isub, 1) := by decide +kernel
theorem dX5_letRain_64 : decode cX5_letRain 64 = .ok (.ireturn, 1) := by decide +kernel
theorem dX5_letDrain_0 : decode cX5_letDrain 0 = .ok (.aload_n 0, 1) := by decide +kernel
theorem dX5_letDrain_1 : decode cX5_letDrain 1 = .ok (.getfield 26, 3) := by decide +kernel
theorem dX5_letDrain_4 : decode cX5_letDrain 4 = .ok (.aload_n 0, 1) := by decide +kernel
theorem dX5_letDrain_5 : decode cX5_letDrain 5 = .ok (.getfield 9, 3) := by decide +kernel
theorem dX5_letDrain_8 : decode cX5_letDrain 8 = .ok (.iconst 4, 1) := by decide +kernel
theorem dX5_letDrain_9 : decode cX5_letDrain 9 = .ok (.iaload, 1) := by decide +kernel
theorem dX5_letDrain_10 : decode cX5_letDrain 10 = .ok (.invokestatic 61, 3) := by decide +kernel
theorem dX5_letDrain_13 : decode cX5_letDrain 13 = .ok (.istore_n 1, 1) := by decide +kernel
theorem dX5_letDrain_14 : decode cX5_letDrain 14 = .ok (.aload_n 0, 1) := by decide +kernel
theorem dX5_letDrain_15 : decode cX5_letDrain 15 = .ok (.getfield 9, 3) := by decide +kernel
theorem dX5_letDrain_18 : decode cX5_letDrain 18 = .ok (.iconst 4, 1) := by decide +kernel
theorem dX5_letDrain_19 : decode cX5_letDrain 19 = .ok (.dup2, 1) := by decide +kernel
theorem dX5_letDrain_20 : decode cX5_letDrain 20 = .ok (.iaload, 1) := by decide +kernel
theorem dX5_letDrain_21 : decode cX5_letDrain 21 = .ok (.iload_n 1, 1) := by decide +kernel
theorem dX5_letDrain_22 : decode cX5_letDrain 22 = .ok (.isub, 1) := by decide +kernel
theorem dX5_letDrain_23 : decode cX5_letDrain 23 = .ok (.iastore, 1) := by decide +kernel
theorem dX5_letDrain_24 : decode cX5_letDrain 24 = .ok (.aload_n 0, 1) := by decide +kernel
theorem dX5_letDrain_25 : decode cX5_letDrain 25 = .ok (.dup, 1) := by decide +kernel
theorem dX5_letDrain_26 : decode cX5_letDrain 26 = .ok (.getfield 32, 3) := by decide +kernel
theorem dX5_letDrain_29 : decode cX5_letDrain 29 = .ok (.iload_n 1, 1) := by decide +kernel
theorem dX5_letDrain_30 : decode cX5_letDrain 30 = .ok (.iadd, 1) := by decide +kernel
theorem dX5_letDrain_31 : decode cX5_letDrain 31 = .ok (.putfield 32, 3) := by decide +kernel
theorem dX5_letDrain_34 : decode cX5_letDrain 34 = .ok (.return_, 1) := by decide +kernel
theorem dX5_sumOfVolumes_0 : decode cX5_sumOfVolumes 0 = .ok (.iconst 0, 1) := by decide +kernel
theorem dX5_sumOfVolumes_1 : decode cX5_sumOfVolumes 1 = .ok (.istore_n 1, 1) := by decide +kernel
theorem dX5_sumOfVolumes_2 : decode cX5_sumOfVolumes 2 = .ok (.iconst 0, 1) := by decide +kernel
theorem dX5_sumOfVolumes_3 : decode cX5_sumOfVolumes 3 = .ok (.istore_n 2, 1) := by decide +kernel
theorem dX5_sumOfVolumes_4 : decode cX5_sumOfVolumes 4 = .ok (.iload_n 2, 1) := by decide +kernel
theorem dX5_sumOfVolumes_5 : decode cX5_sumOfVolumes 5 = .ok (.iconst 5, 1) := by decide +kernel
theorem dX5_sumOfVolumes_6 : decode cX5_sumOfVolumes 6 = .ok (.if_icmp .ge 18, 3) := by decide +kernel
theorem dX5_sumOfVolumes_9 : decode cX5_sumOfVolumes 9 = .ok (.iload_n 1, 1) := by decide +kernel
theorem dX5_sumOfVolumes_10 : decode cX5_sumOfVolumes 10 = .ok (.aload_n 0, 1) := by decide +kernel
theorem dX5_sumOfVolumes_11 : decode cX5_sumOfVolumes 11 = .ok (.getfield 9, 3) := by decide +kernel
theorem dX5_sumOfVolumes_14 : decode cX5_sumOfVolumes 14 = .ok (.iload_n 2, 1) := by decide +kernel
theorem dX5_sumOfVolumes_15 : decode cX5_sumOfVolumes 15 = .ok (.iaload, 1) := by decide +kernel
theorem dX5_sumOfVolumes_16 : decode cX5_sumOfVolumes 16 = .ok (.iadd, 1) := by decide +kernel
theorem dX5_sumOfVolumes_17 : decode cX5_sumOfVolumes 17 = .ok (.istore_n 1, 1) := by decide +kernel
theorem dX5_sumOfVolumes_18 : decode cX5_sumOfVolumes 18 = .ok (.iinc 2 1, 3) := by decide +kernel
theorem dX5_sumOfVolumes_21 : decode cX5_sumOfVolumes 21 = .ok (.goto (-17), 3) := by decide +kernel
theorem dX5_sumOfVolumes_24 : decode cX5_sumOfVolumes 24 = .ok (.iload_n 1, 1) := by decide +kernel
theorem dX5_sumOfVolumes_25 : decode cX5_sumOfVolumes 25 = .ok (.ireturn, 1) := by decide +kernel
theorem dX5_sumByAccounts_0 : decode cX5_sumByAccounts 0 = .ok (.aload_n 0, 1) := by decide +kernel
theorem dX5_sumByAccounts_1 : decode cX5_sumByAccounts 1 = .ok (.getfield 29, 3) := by decide +kernel
theorem dX5_sumByAccounts_4 : decode cX5_sumByAccounts 4 = .ok (.aload_n 0, 1) := by decide +kernel
theorem dX5_sumByAccounts_5 : decode cX5_sumByAccounts 5 = .ok (.getfield 32, 3) := by decide +kernel
theorem dX5_sumByAccounts_8 : decode cX5_sumByAccounts 8 = .ok (.isub, 1) := by decide +kernel
theorem dX5_sumByAccounts_9 : decode cX5_sumByAccounts 9 = .ok (.aload_n 0, 1) := by decide +kernel
theorem dX5_sumByAccounts_10 : decode cX5_sumByAccounts 10 = .ok (.getfield 35, 3) := by decide +kernel
theorem dX5_sumByAccounts_13 : decode cX5_sumByAccounts 13 = .ok (.isub, 1) := by decide +kernel
theorem dX5_sumByAccounts_14 : decode cX5_sumByAccounts 14 = .ok (.istore_n 1, 1) := by decide +kernel
theorem dX5_sumByAccounts_15 : decode cX5_sumByAccounts 15 = .ok (.iconst 0, 1) := by decide +kernel
theorem dX5_sumByAccounts_16 : decode cX5_sumByAccounts 16 = .ok (.istore_n 2, 1) := by decide +kernel
theorem dX5_sumByAccounts_17 : decode cX5_sumByAccounts 17 = .ok (.iload_n 2, 1) := by decide +kernel
theorem dX5_sumByAccounts_18 : decode cX5_sumByAccounts 18 = .ok (.iconst 5, 1) := by decide +kernel
theorem dX5_sumByAccounts_19 : decode cX5_sumByAccounts 19 = .ok (.if_icmp .ge 17, 3) := by decide +kernel
theorem dX5_sumByAccounts_22 : decode cX5_sumByAccounts 22 = .ok (.iload_n 1, 1) := by decide +kernel
theorem dX5_sumByAccounts_23 : decode cX5_sumByAccounts 23 = .ok (.getstatic 38, 3) := by decide +kernel
theorem dX5_sumByAccounts_26 : decode cX5_sumByAccounts 26 = .ok (.iload_n 2, 1) := by decide +kernel
theorem dX5_sumByAccounts_27 : decode cX5_sumByAccounts 27 = .ok (.iaload, 1) := by decide +kernel
theorem dX5_sumByAccounts_28 : decode cX5_sumByAccounts 28 = .ok (.iadd, 1) := by decide +kernel
theorem dX5_sumByAccounts_29 : decode cX5_sumByAccounts 29 = .ok (.istore_n 1, 1) := by decide +kernel
theorem dX5_sumByAccounts_30 : decode cX5_sumByAccounts 30 = .ok (.iinc 2 1, 3) := by decide +kernel
theorem dX5_sumByAccounts_33 : decode cX5_sumByAccounts 33 = .ok (.goto (-16), 3) := by decide +kernel
theorem dX5_sumByAccounts_36 : decode cX5_sumByAccounts 36 = .ok (.iload_n 1, 1) := by decide +kernel
theorem dX5_sumByAccounts_37 : decode cX5_sumByAccounts 37 = .ok (.ireturn, 1) := by decide +kernel
theorem dX5_openGateCount_0 : decode cX5_openGateCount 0 = .ok (.iconst 0, 1) := by decide +kernel
theorem dX5_openGateCount_1 : decode cX5_openGateCount 1 = .ok (.istore_n 1, 1) := by decide +kernel
theorem dX5_openGateCount_2 : decode cX5_openGateCount 2 = .ok (.iconst 0, 1) := by decide +kernel
theorem dX5_openGateCount_3 : decode cX5_openGateCount 3 = .ok (.istore_n 2, 1) := by decide +kernel
theorem dX5_openGateCount_4 : decode cX5_openGateCount 4 = .ok (.iload_n 2, 1) := by decide +kernel
theorem dX5_openGateCount_5 : decode cX5_openGateCount 5 = .ok (.iconst 4, 1) := by decide +kernel
theorem dX5_openGateCount_6 : decode cX5_openGateCount 6 = .ok (.if_icmp .ge 26, 3) := by decide +kernel
theorem dX5_openGateCount_9 : decode cX5_openGateCount 9 = .ok (.iload_n 1, 1) := by decide +kernel
theorem dX5_openGateCount_10 : decode cX5_openGateCount 10 = .ok (.aload_n 0, 1) := by decide +kernel
theorem dX5_openGateCount_11 : decode cX5_openGateCount 11 = .ok (.getfield 18, 3) := by decide +kernel
theorem dX5_openGateCount_14 : decode cX5_openGateCount 14 = .ok (.iload_n 2, 1) := by decide +kernel
theorem dX5_openGateCount_15 : decode cX5_openGateCount 15 = .ok (.baload, 1) := by decide +kernel
theorem dX5_openGateCount_16 : decode cX5_openGateCount 16 = .ok (.ifCond .eq 7, 3) := by decide +kernel
theorem dX5_openGateCount_19 : decode cX5_openGateCount 19 = .ok (.iconst 1, 1) := by decide +kernel
theorem dX5_openGateCount_20 : decode cX5_openGateCount 20 = .ok (.goto 4, 3) := by decide +kernel
theorem dX5_openGateCount_23 : decode cX5_openGateCount 23 = .ok (.iconst 0, 1) := by decide +kernel
theorem dX5_openGateCount_24 : decode cX5_openGateCount 24 = .ok (.iadd, 1) := by decide +kernel
theorem dX5_openGateCount_25 : decode cX5_openGateCount 25 = .ok (.istore_n 1, 1) := by decide +kernel
theorem dX5_openGateCount_26 : decode cX5_openGateCount 26 = .ok (.iinc 2 1, 3) := by decide +kernel
theorem dX5_openGateCount_29 : decode cX5_openGateCount 29 = .ok (.goto (-25), 3) := by decide +kernel
theorem dX5_openGateCount_32 : decode cX5_openGateCount 32 = .ok (.iload_n 1, 1) := by decide +kernel
theorem dX5_openGateCount_33 : decode cX5_openGateCount 33 = .ok (.ireturn, 1) := by decide +kernel
theorem dX5_rankOfBasin_0 : decode cX5_rankOfBasin 0 = .ok (.iconst 0, 1) := by decide +kernel
theorem dX5_rankOfBasin_1 : decode cX5_rankOfBasin 1 = .ok (.istore_n 2, 1) := by decide +kernel
theorem dX5_rankOfBasin_2 : decode cX5_rankOfBasin 2 = .ok (.iconst 0, 1) := by decide +kernel
theorem dX5_rankOfBasin_3 : decode cX5_rankOfBasin 3 = .ok (.istore_n 3, 1) := by decide +kernel
theorem dX5_rankOfBasin_4 : decode cX5_rankOfBasin 4 = .ok (.iload_n 3, 1) := by decide +kernel
theorem dX5_rankOfBasin_5 : decode cX5_rankOfBasin 5 = .ok (.iconst 5, 1) := by decide +kernel
theorem dX5_rankOfBasin_6 : decode cX5_rankOfBasin 6 = .ok (.if_icmp .ge 35, 3) := by decide +kernel
theorem dX5_rankOfBasin_9 : decode cX5_rankOfBasin 9 = .ok (.aload_n 0, 1) := by decide +kernel
theorem dX5_rankOfBasin_10 : decode cX5_rankOfBasin 10 = .ok (.iload_n 3, 1) := by decide +kernel
theorem dX5_rankOfBasin_11 : decode cX5_rankOfBasin 11 = .ok (.iload_n 1, 1) := by decide +kernel
theorem dX5_rankOfBasin_12 : decode cX5_rankOfBasin 12 = .ok (.invokevirtual 45, 3) := by decide +kernel
theorem dX5_rankOfBasin_15 : decode cX5_rankOfBasin 15 = .ok (.istore 4, 2) := by decide +kernel
theorem dX5_rankOfBasin_17 : decode cX5_rankOfBasin 17 = .ok (.iload 4, 2) := by decide +kernel
theorem dX5_rankOfBasin_19 : decode cX5_rankOfBasin 19 = .ok (.ifCond .gt 13, 3) := by decide +kernel
theorem dX5_rankOfBasin_22 : decode cX5_rankOfBasin 22 = .ok (.iload 4, 2) := by decide +kernel
theorem dX5_rankOfBasin_24 : decode cX5_rankOfBasin 24 = .ok (.ifCond .ne 11, 3) := by decide +kernel
theorem dX5_rankOfBasin_27 : decode cX5_rankOfBasin 27 = .ok (.iload_n 3, 1) := by decide +kernel
theorem dX5_rankOfBasin_28 : decode cX5_rankOfBasin 28 = .ok (.iload_n 1, 1) := by decide +kernel
theorem dX5_rankOfBasin_29 : decode cX5_rankOfBasin 29 = .ok (.if_icmp .ge 6, 3) := by decide +kernel
theorem dX5_rankOfBasin_32 : decode cX5_rankOfBasin 32 = .ok (.iinc 2 1, 3) := by decide +kernel
theorem dX5_rankOfBasin_35 : decode cX5_rankOfBasin 35 = .ok (.iinc 3 1, 3) := by decide +kernel
theorem dX5_rankOfBasin_38 : decode cX5_rankOfBasin 38 = .ok (.goto (-34), 3) := by decide +kernel
theorem dX5_rankOfBasin_41 : decode cX5_rankOfBasin 41 = .ok (.iload_n 2, 1) := by decide +kernel
theorem dX5_rankOfBasin_42 : decode cX5_rankOfBasin 42 = .ok (.ireturn, 1) := by decide +kernel
theorem dX5_amountsAgree_0 : decode cX5_amountsAgree 0 = .ok (.iconst 0, 1) := by decide +kernel
theorem dX5_amountsAgree_1 : decode cX5_amountsAgree 1 = .ok (.istore_n 1, 1) := by decide +kernel
theorem dX5_amountsAgree_2 : decode cX5_amountsAgree 2 = .ok (.iload_n 1, 1) := by decide +kernel
theorem dX5_amountsAgree_3 : decode cX5_amountsAgree 3 = .ok (.iconst 4, 1) := by decide +kernel
theorem dX5_amountsAgree_4 : decode cX5_amountsAgree 4 = .ok (.if_icmp .ge 24, 3) := by decide +kernel
theorem dX5_amountsAgree_7 : decode cX5_amountsAgree 7 = .ok (.aload_n 0, 1) := by decide +kernel
theorem dX5_amountsAgree_8 : decode cX5_amountsAgree 8 = .ok (.iload_n 1, 1) := by decide +kernel
theorem dX5_amountsAgree_9 : decode cX5_amountsAgree 9 = .ok (.invokevirtual 58, 3) := by decide +kernel
theorem dX5_amountsAgree_12 : decode cX5_amountsAgree 12 = .ok (.aload_n 0, 1) := by decide +kernel
theorem dX5_amountsAgree_13 : decode cX5_amountsAgree 13 = .ok (.iload_n 1, 1) := by decide +kernel
theorem dX5_amountsAgree_14 : decode cX5_amountsAgree 14 = .ok (.invokevirtual 64, 3) := by decide +kernel
theorem dX5_amountsAgree_17 : decode cX5_amountsAgree 17 = .ok (.if_icmp .eq 5, 3) := by decide +kernel
theorem dX5_amountsAgree_20 : decode cX5_amountsAgree 20 = .ok (.iconst 0, 1) := by decide +kernel
theorem dX5_amountsAgree_21 : decode cX5_amountsAgree 21 = .ok (.ireturn, 1) := by decide +kernel
theorem dX5_amountsAgree_22 : decode cX5_amountsAgree 22 = .ok (.iinc 1 1, 3) := by decide +kernel
theorem dX5_amountsAgree_25 : decode cX5_amountsAgree 25 = .ok (.goto (-23), 3) := by decide +kernel
theorem dX5_amountsAgree_28 : decode cX5_amountsAgree 28 = .ok (.iconst 1, 1) := by decide +kernel
theorem dX5_amountsAgree_29 : decode cX5_amountsAgree 29 = .ok (.ireturn, 1) := by decide +kernel
theorem dX5_isWithinLimits_0 : decode cX5_isWithinLimits 0 = .ok (.iconst 0, 1) := by decide +kernel
theorem dX5_isWithinLimits_1 : decode cX5_isWithinLimits 1 = .ok (.istore_n 1, 1) := by decide +kernel
theorem dX5_isWithinLimits_2 : decode cX5_isWithinLimits 2 = .ok (.iload_n 1, 1) := by decide +kernel
theorem dX5_isWithinLimits_3 : decode cX5_isWithinLimits 3 = .ok (.iconst 5, 1) := by decide +kernel
theorem dX5_isWithinLimits_4 : decode cX5_isWithinLimits 4 = .ok (.if_icmp .ge 27, 3) := by decide +kernel
theorem dX5_isWithinLimits_7 : decode cX5_isWithinLimits 7 = .ok (.aload_n 0, 1) := by decide +kernel
theorem dX5_isWithinLimits_8 : decode cX5_isWithinLimits 8 = .ok (.getfield 9, 3) := by decide +kernel
theorem dX5_isWithinLimits_11 : decode cX5_isWithinLimits 11 = .ok (.iload_n 1, 1) := by decide +kernel
theorem dX5_isWithinLimits_12 : decode cX5_isWithinLimits 12 = .ok (.iaload, 1) := by decide +kernel
theorem dX5_isWithinLimits_13 : decode cX5_isWithinLimits 13 = .ok (.bipush 40, 2) := by decide +kernel
theorem dX5_isWithinLimits_15 : decode cX5_isWithinLimits 15 = .ok (.iload_n 1, 1) := by decide +kernel
theorem dX5_isWithinLimits_16 : decode cX5_isWithinLimits 16 = .ok (.invokestatic 41, 3) := by decide +kernel
theorem dX5_isWithinLimits_19 : decode cX5_isWithinLimits 19 = .ok (.imul, 1) := by decide +kernel
theorem dX5_isWithinLimits_20 : decode cX5_isWithinLimits 20 = .ok (.if_icmp .le 5, 3) := by decide +kernel
theorem dX5_isWithinLimits_23 : decode cX5_isWithinLimits 23 = .ok (.iconst 0, 1) := by decide +kernel
theorem dX5_isWithinLimits_24 : decode cX5_isWithinLimits 24 = .ok (.ireturn, 1) := by decide +kernel
theorem dX5_isWithinLimits_25 : decode cX5_isWithinLimits 25 = .ok (.iinc 1 1, 3) := by decide +kernel
theorem dX5_isWithinLimits_28 : decode cX5_isWithinLimits 28 = .ok (.goto (-26), 3) := by decide +kernel
theorem dX5_isWithinLimits_31 : decode cX5_isWithinLimits 31 = .ok (.iconst 1, 1) := by decide +kernel
theorem dX5_isWithinLimits_32 : decode cX5_isWithinLimits 32 = .ok (.ireturn, 1) := by decide +kernel
theorem dX6_init_0 : decode cX6_init 0 = .ok (.aload_n 0, 1) := by decide +kernel
theorem dX6_init_1 : decode cX6_init 1 = .ok (.invokespecial 3, 3) := by decide +kernel
theorem dX6_init_4 : decode cX6_init 4 = .ok (.aload_n 0, 1) := by decide +kernel
theorem dX6_init_5 : decode cX6_init 5 = .ok (.new 9, 3) := by decide +kernel
theorem dX6_init_8 : decode cX6_init 8 = .ok (.dup, 1) := by decide +kernel
theorem dX6_init_9 : decode cX6_init 9 = .ok (.invokespecial 11, 3) := by decide +kernel
theorem dX6_init_12 : decode cX6_init 12 = .ok (.putfield 12, 3) := by decide +kernel
theorem dX6_init_15 : decode cX6_init 15 = .ok (.aload_n 0, 1) := by decide +kernel
theorem dX6_init_16 : decode cX6_init 16 = .ok (.new 9, 3) := by decide +kernel
theorem dX6_init_19 : decode cX6_init 19 = .ok (.dup, 1) := by decide +kernel
theorem dX6_init_20 : decode cX6_init 20 = .ok (.invokespecial 11, 3) := by decide +kernel
theorem dX6_init_23 : decode cX6_init 23 = .ok (.putfield 16, 3) := by decide +kernel
theorem dX6_init_26 : decode cX6_init 26 = .ok (.aload_n 0, 1) := by decide +kernel
theorem dX6_init_27 : decode cX6_init 27 = .ok (.new 9, 3) := by decide +kernel
theorem dX6_init_30 : decode cX6_init 30 = .ok (.dup, 1) := by decide +kernel
theorem dX6_init_31 : decode cX6_init 31 = .ok (.invokespecial 11, 3) := by decide +kernel
theorem dX6_init_34 : decode cX6_init 34 = .ok (.putfield 19, 3) := by decide +kernel
theorem dX6_init_37 : decode cX6_init 37 = .ok (.aload_n 0, 1) := by decide +kernel
theorem dX6_init_38 : decode cX6_init 38 = .ok (.iconst 0, 1) := by decide +kernel
theorem dX6_init_39 : decode cX6_init 39 = .ok (.putfield 22, 3) := by decide +kernel
theorem dX6_init_42 : decode cX6_init 42 = .ok (.aload_n 0, 1) := by decide +kernel
theorem dX6_init_43 : decode cX6_init 43 = .ok (.new 26, 3) := by decide +kernel
theorem dX6_init_46 : decode cX6_init 46 = .ok (.dup, 1) := by decide +kernel
theorem dX6_init_47 : decode cX6_init 47 = .ok (.invokespecial 28, 3) := by decide +kernel
theorem dX6_init_50 : decode cX6_init 50 = .ok (.putfield 29, 3) := by decide +kernel
theorem dX6_init_53 : decode cX6_init 53 = .ok (.aload_n 0, 1) := by decide +kernel
theorem dX6_init_54 : decode cX6_init 54 = .ok (.new 33, 3) := by decide +kernel
theorem dX6_init_57 : decode cX6_init 57 = .ok (.dup, 1) := by decide +kernel
theorem dX6_init_58 : decode cX6_init 58 = .ok (.invokespecial 35, 3) := by decide +kernel
theorem dX6_init_61 : decode cX6_init 61 = .ok (.putfield 36, 3) := by decide +kernel
theorem dX6_init_64 : decode cX6_init 64 = .ok (.aload_n 0, 1) := by decide +kernel
theorem dX6_init_65 : decode cX6_init 65 = .ok (.new 40, 3) := by decide +kernel
theorem dX6_init_68 : decode cX6_init 68 = .ok (.dup, 1) := by decide +kernel
theorem dX6_init_69 : decode cX6_init 69 = .ok (.invokespecial 42, 3) := by decide +kernel
theorem dX6_init_72 : decode cX6_init 72 = .ok (.putfield 43, 3) := by decide +kernel
theorem dX6_init_75 : decode cX6_init 75 = .ok (.aload_n 0, 1) := by decide +kernel
theorem dX6_init_76 : decode cX6_init 76 = .ok (.iconst (-1), 1) := by decide +kernel
theorem dX6_init_77 : decode cX6_init 77 = .ok (.putfield 47, 3) := by decide +kernel
theorem dX6_init_80 : decode cX6_init 80 = .ok (.aload_n 0, 1) := by decide +kernel
theorem dX6_init_81 : decode cX6_init 81 = .ok (.iconst (-1), 1) := by decide +kernel
theorem dX6_init_82 : decode cX6_init 82 = .ok (.putfield 51, 3) := by decide +kernel
theorem dX6_init_85 : decode cX6_init 85 = .ok (.return_, 1) := by decide +kernel
theorem dX6_addBoat_0 : decode cX6_addBoat 0 = .ok (.aload_n 0, 1) := by decide +kernel
theorem dX6_addBoat_1 : decode cX6_addBoat 1 = .ok (.bipush 98, 2) := by decide +kernel
theorem dX6_addBoat_3 : decode cX6_addBoat 3 = .ok (.iload_n 1, 1) := by decide +kernel
theorem dX6_addBoat_4 : decode cX6_addBoat 4 = .ok (.iload_n 2, 1) := by decide +kernel
theorem dX6_addBoat_5 : decode cX6_addBoat 5 = .ok (.invokevirtual 54, 3) := by decide +kernel
theorem dX6_addBoat_8 : decode cX6_addBoat 8 = .ok (.aload_n 0, 1) := by decide +kernel
theorem dX6_addBoat_9 : decode cX6_addBoat 9 = .ok (.getfield 12, 3) := by decide +kernel
theorem dX6_addBoat_12 : decode cX6_addBoat 12 = .ok (.bipush 98, 2) := by decide +kernel
theorem dX6_addBoat_14 : decode cX6_addBoat 14 = .ok (.iload_n 1, 1) := by decide +kernel
theorem dX6_addBoat_15 : decode cX6_addBoat 15 = .ok (.iload_n 2, 1) := by decide +kernel
theorem dX6_addBoat_16 : decode cX6_addBoat 16 = .ok (.iload_n 3, 1) := by decide +kernel
theorem dX6_addBoat_17 : decode cX6_addBoat 17 = .ok (.ifCond .eq 7, 3) := by decide +kernel
theorem dX6_addBoat_20 : decode cX6_addBoat 20 = .ok (.iconst 1, 1) := by decide +kernel
theorem dX6_addBoat_21 : decode cX6_addBoat 21 = .ok (.goto 4, 3) := by decide +kernel
theorem dX6_addBoat_24 : decode cX6_addBoat 24 = .ok (.iconst 0, 1) := by decide +kernel
theorem dX6_addBoat_25 : decode cX6_addBoat 25 = .ok (.invokevirtual 58, 3) := by decide +kernel
theorem dX6_addBoat_28 : decode cX6_addBoat 28 = .ok (.ireturn, 1) := by decide +kernel
theorem dX6_setValve_0 : decode cX6_setValve 0 = .ok (.aload_n 0, 1) := by decide +kernel
theorem dX6_setValve_1 : decode cX6_setValve 1 = .ok (.bipush 118, 2) := by decide +kernel
theorem dX6_setValve_3 : decode cX6_setValve 3 = .ok (.iload_n 1, 1) := by decide +kernel
theorem dX6_setValve_4 : decode cX6_setValve 4 = .ok (.iload_n 2, 1) := by decide +kernel
theorem dX6_setValve_5 : decode cX6_setValve 5 = .ok (.invokevirtual 54, 3) := by decide +kernel
theorem dX6_setValve_8 : decode cX6_setValve 8 = .ok (.aload_n 0, 1) := by decide +kernel
theorem dX6_setValve_9 : decode cX6_setValve 9 = .ok (.getfield 12, 3) := by decide +kernel
theorem dX6_setValve_12 : decode cX6_setValve 12 = .ok (.bipush 118, 2) := by decide +kernel
theorem dX6_setValve_14 : decode cX6_setValve 14 = .ok (.iload_n 1, 1) := by decide +kernel
theorem dX6_setValve_15 : decode cX6_setValve 15 = .ok (.iload_n 2, 1) := by decide +kernel
theorem dX6_setValve_16 : decode cX6_setValve 16 = .ok (.iconst 0, 1) := by decide +kernel
theorem dX6_setValve_17 : decode cX6_setValve 17 = .ok (.invokevirtual 58, 3) := by decide +kernel
theorem dX6_setValve_20 : decode cX6_setValve 20 = .ok (.ireturn, 1) := by decide +kernel
theorem dX6_openGate_0 : decode cX6_openGate 0 = .ok (.aload_n 0, 1) := by decide +kernel
theorem dX6_openGate_1 : decode cX6_openGate 1 = .ok (.bipush 111, 2) := by decide +kernel
theorem dX6_openGate_3 : decode cX6_openGate 3 = .ok (.iload_n 1, 1) := by decide +kernel
theorem dX6_openGate_4 : decode cX6_openGate 4 = .ok (.iconst 0, 1) := by decide +kernel
theorem dX6_openGate_5 : decode cX6_openGate 5 = .ok (.invokevirtual 54, 3) := by decide +kernel
theorem dX6_openGate_8 : decode cX6_openGate 8 = .ok (.aload_n 0, 1) := by decide +kernel
theorem dX6_openGate_9 : decode cX6_openGate 9 = .ok (.getfield 12, 3) := by decide +kernel
theorem dX6_openGate_12 : decode cX6_openGate 12 = .ok (.bipush 111, 2) := by decide +kernel
theorem dX6_openGate_14 : decode cX6_openGate 14 = .ok (.iload_n 1, 1) := by decide +kernel
theorem dX6_openGate_15 : decode cX6_openGate 15 = .ok (.iconst 0, 1) := by decide +kernel
theorem dX6_openGate_16 : decode cX6_openGate 16 = .ok (.iconst 0, 1) := by decide +kernel
theorem dX6_openGate_17 : decode cX6_openGate 17 = .ok (.invokevirtual 58, 3) := by decide +kernel
theorem dX6_openGate_20 : decode cX6_openGate 20 = .ok (.ireturn, 1) := by decide +kernel
theorem dX6_shutGate_0 : decode cX6_shutGate 0 = .ok (.aload_n 0, 1) := by decide +kernel
theorem dX6_shutGate_1 : decode cX6_shutGate 1 = .ok (.bipush 115, 2) := by decide +kernel
theorem dX6_shutGate_3 : decode cX6_shutGate 3 = .ok (.iload_n 1, 1) := by decide +kernel
theorem dX6_shutGate_4 : decode cX6_shutGate 4 = .ok (.iconst 0, 1) := by decide +kernel
theorem dX6_shutGate_5 : decode cX6_shutGate 5 = .ok (.invokevirtual 54, 3) := by decide +kernel
theorem dX6_shutGate_8 : decode cX6_shutGate 8 = .ok (.aload_n 0, 1) := by decide +kernel
theorem dX6_shutGate_9 : decode cX6_shutGate 9 = .ok (.getfield 12, 3) := by decide +kernel
theorem dX6_shutGate_12 : decode cX6_shutGate 12 = .ok (.bipush 115, 2) := by decide +kernel
theorem dX6_shutGate_14 : decode cX6_shutGate 14 = .ok (.iload_n 1, 1) := by decide +kernel
theorem dX6_shutGate_15 : decode cX6_shutGate 15 = .ok (.iconst 0, 1) := by decide +kernel
theorem dX6_shutGate_16 : decode cX6_shutGate 16 = .ok (.iconst 0, 1) := by decide +kernel
theorem dX6_shutGate_17 : decode cX6_shutGate 17 = .ok (.invokevirtual 58, 3) := by decide +kernel
theorem dX6_shutGate_20 : decode cX6_shutGate 20 = .ok (.ireturn, 1) := by decide +kernel
theorem dX6_setRain_0 : decode cX6_setRain 0 = .ok (.aload_n 0, 1) := by decide +kernel
theorem dX6_setRain_1 : decode cX6_setRain 1 = .ok (.bipush 114, 2) := by decide +kernel
theorem dX6_setRain_3 : decode cX6_setRain 3 = .ok (.iload_n 1, 1) := by decide +kernel
theorem dX6_setRain_4 : decode cX6_setRain 4 = .ok (.iconst 0, 1) := by decide +kernel
theorem dX6_setRain_5 : decode cX6_setRain 5 = .ok (.invokevirtual 54, 3) := by decide +kernel
theorem dX6_setRain_8 : decode cX6_setRain 8 = .ok (.aload_n 0, 1) := by decide +kernel
theorem dX6_setRain_9 : decode cX6_setRain 9 = .ok (.getfield 12, 3) := by decide +kernel
theorem dX6_setRain_12 : decode cX6_setRain 12 = .ok (.bipush 114, 2) := by decide +kernel
theorem dX6_setRain_14 : decode cX6_setRain 14 = .ok (.iload_n 1, 1) := by decide +kernel
theorem dX6_setRain_15 : decode cX6_setRain 15 = .ok (.iconst 0, 1) := by decide +kernel
theorem dX6_setRain_16 : decode cX6_setRain 16 = .ok (.iconst 0, 1) := by decide +kernel
theorem dX6_setRain_17 : decode cX6_setRain 17 = .ok (.invokevirtual 58, 3) := by decide +kernel
theorem dX6_setRain_20 : decode cX6_setRain 20 = .ok (.ireturn, 1) := by decide +kernel
theorem dX6_setDrain_0 : decode cX6_setDrain 0 = .ok (.aload_n 0, 1) := by decide +kernel
theorem dX6_setDrain_1 : decode cX6_setDrain 1 = .ok (.bipush 100, 2) := by decide +kernel
theorem dX6_setDrain_3 : decode cX6_setDrain 3 = .ok (.iload_n 1, 1) := by decide +kernel
theorem dX6_setDrain_4 : decode cX6_setDrain 4 = .ok (.iconst 0, 1) := by decide +kernel
theorem dX6_setDrain_5 : decode cX6_setDrain 5 = .ok (.invokevirtual 54, 3) := by decide +kernel
theorem dX6_setDrain_8 : decode cX6_setDrain 8 = .ok (.aload_n 0, 1) := by decide +kernel
theorem dX6_setDrain_9 : decode cX6_setDrain 9 = .ok (.getfield 12, 3) := by decide +kernel
theorem dX6_setDrain_12 : decode cX6_setDrain 12 = .ok (.bipush 100, 2) := by decide +kernel
theorem dX6_setDrain_14 : decode cX6_setDrain 14 = .ok (.iload_n 1, 1) := by decide +kernel
theorem dX6_setDrain_15 : decode cX6_setDrain 15 = .ok (.iconst 0, 1) := by decide +kernel
theorem dX6_setDrain_16 : decode cX6_setDrain 16 = .ok (.iconst 0, 1) := by decide +kernel
theorem dX6_setDrain_17 : decode cX6_setDrain 17 = .ok (.invokevirtual 58, 3) := by decide +kernel
theorem dX6_setDrain_20 : decode cX6_setDrain 20 = .ok (.ireturn, 1) := by decide +kernel
theorem dX6_advance_0 : decode cX6_advance 0 = .ok (.aload_n 0, 1) := by decide +kernel
theorem dX6_advance_1 : decode cX6_advance 1 = .ok (.bipush 119, 2) := by decide +kernel
theorem dX6_advance_3 : decode cX6_advance 3 = .ok (.iload_n 1, 1) := by decide +kernel
theorem dX6_advance_4 : decode cX6_advance 4 = .ok (.iconst 0, 1) := by decide +kernel
theorem dX6_advance_5 : decode cX6_advance 5 = .ok (.invokevirtual 54, 3) := by decide +kernel
theorem dX6_advance_8 : decode cX6_advance 8 = .ok (.aload_n 0, 1) := by decide +kernel
theorem dX6_advance_9 : decode cX6_advance 9 = .ok (.getfield 12, 3) := by decide +kernel
theorem dX6_advance_12 : decode cX6_advance 12 = .ok (.bipush 119, 2) := by decide +kernel
theorem dX6_advance_14 : decode cX6_advance 14 = .ok (.iload_n 1, 1) := by decide +kernel
theorem dX6_advance_15 : decode cX6_advance 15 = .ok (.iconst 0, 1) := by decide +kernel
theorem dX6_advance_16 : decode cX6_advance 16 = .ok (.iconst 0, 1) := by decide +kernel
theorem dX6_advance_17 : decode cX6_advance 17 = .ok (.invokevirtual 58, 3) := by decide +kernel
theorem dX6_advance_20 : decode cX6_advance 20 = .ok (.ireturn, 1) := by decide +kernel
theorem dX6_area_0 : decode cX6_area 0 = .ok (.iload_n 1, 1) := by decide +kernel
theorem dX6_area_1 : decode cX6_area 1 = .ok (.invokestatic 62, 3) := by decide +kernel
theorem dX6_area_4 : decode cX6_area 4 = .ok (.iload_n 1, 1) := by decide +kernel
theorem dX6_area_5 : decode cX6_area 5 = .ok (.invokestatic 66, 3) := by decide +kernel
theorem dX6_area_8 : decode cX6_area 8 = .ok (.ireturn, 1) := by decide +kernel
theorem dX6_volume_0 : decode cX6_volume 0 = .ok (.iload_n 1, 1) := by decide +kernel
theorem dX6_volume_1 : decode cX6_volume 1 = .ok (.invokestatic 62, 3) := by decide +kernel
theorem dX6_volume_4 : decode cX6_volume 4 = .ok (.aload_n 0, 1) := by decide +kernel
theorem dX6_volume_5 : decode cX6_volume 5 = .ok (.getfield 12, 3) := by decide +kernel
theorem dX6_volume_8 : decode cX6_volume 8 = .ok (.getfield 70, 3) := by decide +kernel
theorem dX6_volume_11 : decode cX6_volume 11 = .ok (.getfield 74, 3) := by decide +kernel
theorem dX6_volume_14 : decode cX6_volume 14 = .ok (.iload_n 1, 1) := by decide +kernel
theorem dX6_volume_15 : decode cX6_volume 15 = .ok (.iaload, 1) := by decide +kernel
theorem dX6_volume_16 : decode cX6_volume 16 = .ok (.ireturn, 1) := by decide +kernel
theorem dX6_level_0 : decode cX6_level 0 = .ok (.iload_n 1, 1) := by decide +kernel
theorem dX6_level_1 : decode cX6_level 1 = .ok (.invokestatic 62, 3) := by decide +kernel
theorem dX6_level_4 : decode cX6_level 4 = .ok (.aload_n 0, 1) := by decide +kernel
theorem dX6_level_5 : decode cX6_level 5 = .ok (.getfield 12, 3) := by decide +kernel
theorem dX6_level_8 : decode cX6_level 8 = .ok (.getfield 70, 3) := by decide +kernel
theorem dX6_level_11 : decode cX6_level 11 = .ok (.iload_n 1, 1) := by decide +kernel
theorem dX6_level_12 : decode cX6_level 12 = .ok (.invokevirtual 80, 3) := by decide +kernel
theorem dX6_level_15 : decode cX6_level 15 = .ok (.ireturn, 1) := by decide +kernel
theorem dX6_exactLevel_0 : decode cX6_exactLevel 0 = .ok (.iload_n 1, 1) := by decide +kernel
theorem dX6_exactLevel_1 : decode cX6_exactLevel 1 = .ok (.invokestatic 62, 3) := by decide +kernel
theorem dX6_exactLevel_4 : decode cX6_exactLevel 4 = .ok (.aload_n 0, 1) := by decide +kernel
theorem dX6_exactLevel_5 : decode cX6_exactLevel 5 = .ok (.getfield 12, 3) := by decide +kernel
theorem dX6_exactLevel_8 : decode cX6_exactLevel 8 = .ok (.getfield 70, 3) := by decide +kernel
theorem dX6_exactLevel_11 : decode cX6_exactLevel 11 = .ok (.getfield 74, 3) := by decide +kernel
theorem dX6_exactLevel_14 : decode cX6_exactLevel 14 = .ok (.iload_n 1, 1) := by decide +kernel
theorem dX6_exactLevel_15 : decode cX6_exactLevel 15 = .ok (.iaload, 1) := by decide +kernel
theorem dX6_exactLevel_16 : decode cX6_exactLevel 16 = .ok (.i2d, 1) := by decide +kernel
theorem dX6_exactLevel_17 : decode cX6_exactLevel 17 = .ok (.iload_n 1, 1) := by decide +kernel
theorem dX6_exactLevel_18 : decode cX6_exactLevel 18 = .ok (.invokestatic 66, 3) := by decide +kernel
theorem dX6_exactLevel_21 : decode cX6_exactLevel 21 = .ok (.i2d, 1) := by decide +kernel
theorem dX6_exactLevel_22 : decode cX6_exactLevel 22 = .ok (.ddiv, 1) := by decide +kernel
theorem dX6_exactLevel_23 : decode cX6_exactLevel 23 = .ok (.dreturn, 1) := by decide +kernel
theorem dX6_isHigher_0 : decode cX6_isHigher 0 = .ok (.iload_n 1, 1) := by decide +kernel
theorem dX6_isHigher_1 : decode cX6_isHigher 1 = .ok (.invokestatic 62, 3) := by decide +kernel
theorem dX6_isHigher_4 : decode cX6_isHigher 4 = .ok (.iload_n 2, 1) := by decide +kernel
theorem dX6_isHigher_5 : decode cX6_isHigher 5 = .ok (.invokestatic 62, 3) := by decide +kernel
theorem dX6_isHigher_8 : decode cX6_isHigher 8 = .ok (.aload_n 0, 1) := by decide +kernel
theorem dX6_isHigher_9 : decode cX6_isHigher 9 = .ok (.getfield 12, 3) := by decide +kernel
theorem dX6_isHigher_12 : decode cX6_isHigher 12 = .ok (.getfield 70, 3) := by decide +kernel
theorem dX6_isHigher_15 : decode cX6_isHigher 15 = .ok (.iload_n 1, 1) := by decide +kernel
theorem dX6_isHigher_16 : decode cX6_isHigher 16 = .ok (.iload_n 2, 1) := by decide +kernel
theorem dX6_isHigher_17 : decode cX6_isHigher 17 = .ok (.invokevirtual 83, 3) := by decide +kernel
theorem dX6_isHigher_20 : decode cX6_isHigher 20 = .ok (.ifCond .le 7, 3) := by decide +kernel
theorem dX6_isHigher_23 : decode cX6_isHigher 23 = .ok (.iconst 1, 1) := by decide +kernel
theorem dX6_isHigher_24 : decode cX6_isHigher 24 = .ok (.goto 4, 3) := by decide +kernel
theorem dX6_isHigher_27 : decode cX6_isHigher 27 = .ok (.iconst 0, 1) := by decide +kernel
theorem dX6_isHigher_28 : decode cX6_isHigher 28 = .ok (.ireturn, 1) := by decide +kernel
theorem dX6_equalizingAmount_0 : decode cX6_equalizingAmount 0 = .ok (.iload_n 1, 1) := by decide +kernel
theorem dX6_equalizingAmount_1 : decode cX6_equalizingAmount 1 = .ok (.invokestatic 87, 3) := by decide +kernel
theorem dX6_equalizingAmount_4 : decode cX6_equalizingAmount 4 = .ok (.aload_n 0, 1) := by decide +kernel
theorem dX6_equalizingAmount_5 : decode cX6_equalizingAmount 5 = .ok (.getfield 12, 3) := by decide +kernel
theorem dX6_equalizingAmount_8 : decode cX6_equalizingAmount 8 = .ok (.getfield 70, 3) := by decide +kernel
theorem dX6_equalizingAmount_11 : decode cX6_equalizingAmount 11 = .ok (.iload_n 1, 1) := by decide +kernel
theorem dX6_equalizingAmount_12 : decode cX6_equalizingAmount 12 = .ok (.invokevirtual 90, 3) := by decide +kernel
theorem dX6_equalizingAmount_15 : decode cX6_equalizingAmount 15 = .ok (.ireturn, 1) := by decide +kernel
theorem dX6_equalizingAmountByLitres_0 : decode cX6_equalizingAmountByLitres 0 = .ok (.iload_n 1, 1) := by decide +kernel
theorem dX6_equalizingAmountByLitres_1 : decode cX6_equalizingAmountByLitres 1 = .ok (.invokestatic 87, 3) := by decide +kernel
theorem dX6_equalizingAmountByLitres_4 : decode cX6_equalizingAmountByLitres 4 = .ok (.aload_n 0, 1) := by decide +kernel
theorem dX6_equalizingAmountByLitres_5 : decode cX6_equalizingAmountByLitres 5 = .ok (.getfield 12, 3) := by decide +kernel
theorem dX6_equalizingAmountByLitres_8 : decode cX6_equalizingAmountByLitres 8 = .ok (.getfield 70, 3) := by decide +kernel
theorem dX6_equalizingAmountByLitres_11 : decode cX6_equalizingAmountByLitres 11 = .ok (.iload_n 1, 1) := by decide +kernel
theorem dX6_equalizingAmountByLitres_12 : decode cX6_equalizingAmountByLitres 12 = .ok (.invokevirtual 93, 3) := by decide +kernel
theorem dX6_equalizingAmountByLitres_15 : decode cX6_equalizingAmountByLitres 15 = .ok (.ireturn, 1) := by decide +kernel
theorem dX6_opening_0 : decode cX6_opening 0 = .ok (.iload_n 1, 1) := by decide +kernel
theorem dX6_opening_1 : decode cX6_opening 1 = .ok (.invokestatic 87, 3) := by decide +kernel
theorem dX6_opening_4 : decode cX6_opening 4 = .ok (.aload_n 0, 1) := by decide +kernel
theorem dX6_opening_5 : decode cX6_opening 5 = .ok (.getfield 12, 3) := by decide +kernel
theorem dX6_opening_8 : decode cX6_opening 8 = .ok (.getfield 70, 3) := by decide +kernel
theorem dX6_opening_11 : decode cX6_opening 11 = .ok (.getfield 96, 3) := by decide +kernel
theorem dX6_opening_14 : decode cX6_opening 14 = .ok (.iload_n 1, 1) := by decide +kernel
theorem dX6_opening_15 : decode cX6_opening 15 = .ok (.iaload, 1) := by decide +kernel
theorem dX6_opening_16 : decode cX6_opening 16 = .ok (.ireturn, 1) := by decide +kernel
theorem dX6_isOpen_0 : decode cX6_isOpen 0 = .ok (.iload_n 1, 1) := by decide +kernel
theorem dX6_isOpen_1 : decode cX6_isOpen 1 = .ok (.invokestatic 87, 3) := by decide +kernel
theorem dX6_isOpen_4 : decode cX6_isOpen 4 = .ok (.aload_n 0, 1) := by decide +kernel
theorem dX6_isOpen_5 : decode cX6_isOpen 5 = .ok (.getfield 12, 3) := by decide +kernel
theorem dX6_isOpen_8 : decode cX6_isOpen 8 = .ok (.getfield 70, 3) := by decide +kernel
theorem dX6_isOpen_11 : decode cX6_isOpen 11 = .ok (.getfield 99, 3) := by decide +kernel
theorem dX6_isOpen_14 : decode cX6_isOpen 14 = .ok (.iload_n 1, 1) := by decide +kernel
theorem dX6_isOpen_15 : decode cX6_isOpen 15 = .ok (.baload, 1) := by decide +kernel
theorem dX6_isOpen_16 : decode cX6_isOpen 16 = .ok (.ireturn, 1) := by decide +kernel
theorem dX6_flow_0 : decode cX6_flow 0 = .ok (.iload_n 1, 1) := by decide +kernel
theorem dX6_flow_1 : decode cX6_flow 1 = .ok (.invokestatic 87, 3) := by decide +kernel
theorem dX6_flow_4 : decode cX6_flow 4 = .ok (.aload_n 0, 1) := by decide +kernel
theorem dX6_flow_5 : decode cX6_flow 5 = .ok (.getfield 12, 3) := by decide +kernel
theorem dX6_flow_8 : decode cX6_flow 8 = .ok (.getfield 70, 3) := by decide +kernel
theorem dX6_flow_11 : decode cX6_flow 11 = .ok (.iload_n 1, 1) := by decide +kernel
theorem dX6_flow_12 : decode cX6_flow 12 = .ok (.invokevirtual 103, 3) := by decide +kernel
theorem dX6_flow_15 : decode cX6_flow 15 = .ok (.ireturn, 1) := by decide +kernel
theorem dX6_rain_0 : decode cX6_rain 0 = .ok (.aload_n 0, 1) := by decide +kernel
theorem dX6_rain_1 : decode cX6_rain 1 = .ok (.getfield 12, 3) := by decide +kernel
theorem dX6_rain_4 : decode cX6_rain 4 = .ok (.getfield 70, 3) := by decide +kernel
theorem dX6_rain_7 : decode cX6_rain 7 = .ok (.getfield 106, 3) := by decide +kernel
theorem dX6_rain_10 : decode cX6_rain 10 = .ok (.ireturn, 1) := by decide +kernel
theorem dX6_drain_0 : decode cX6_drain 0 = .ok (.aload_n 0, 1) := by decide +kernel
theorem dX6_drain_1 : decode cX6_drain 1 = .ok (.getfield 12, 3) := by decide +kernel
theorem dX6_drain_4 : decode cX6_drain 4 = .ok (.getfield 70, 3) := by decide +kernel
theorem dX6_drain_7 : decode cX6_drain 7 = .ok (.getfield 109, 3) := by decide +kernel
theorem dX6_drain_10 : decode cX6_drain 10 = .ok (.ireturn, 1) := by decide +kernel
theorem dX6_totalVolume_0 : decode cX6_totalVolume 0 = .ok (.aload_n 0, 1) := by decide +kernel
theorem dX6_totalVolume_1 : decode cX6_totalVolume 1 = .ok (.getfield 12, 3) := by decide +kernel
theorem dX6_totalVolume_4 : decode cX6_totalVolume 4 = .ok (.getfield 70, 3) := by decide +kernel
theorem dX6_totalVolume_7 : decode cX6_totalVolume 7 = .ok (.invokevirtual 112, 3) := by decide +kernel
theorem dX6_totalVolume_10 : decode cX6_totalVolume 10 = .ok (.ireturn, 1) := by decide +kernel
theorem dX6_totalVolumeByAccounts_0 : decode cX6_totalVolumeByAccounts 0 = .ok (.aload_n 0, 1) := by decide +kernel
theorem dX6_totalVolumeByAccounts_1 : decode cX6_totalVolumeByAccounts 1 = .ok (.getfield 12, 3) := by decide +kernel
theorem dX6_totalVolumeByAccounts_4 : decode cX6_totalVolumeByAccounts 4 = .ok (.getfield 70, 3) := by decide +kernel
theorem dX6_totalVolumeByAccounts_7 : decode cX6_totalVolumeByAccounts 7 = .ok (.invokevirtual 116, 3) := by decide +kernel
theorem dX6_totalVolumeByAccounts_10 : decode cX6_totalVolumeByAccounts 10 = .ok (.ireturn, 1) := by decide +kernel
theorem dX6_rainTotal_0 : decode cX6_rainTotal 0 = .ok (.aload_n 0, 1) := by decide +kernel
theorem dX6_rainTotal_1 : decode cX6_rainTotal 1 = .ok (.getfield 12, 3) := by decide +kernel
theorem dX6_rainTotal_4 : decode cX6_rainTotal 4 = .ok (.getfield 70, 3) := by decide +kernel
theorem dX6_rainTotal_7 : decode cX6_rainTotal 7 = .ok (.getfield 119, 3) := by decide +kernel
theorem dX6_rainTotal_10 : decode cX6_rainTotal 10 = .ok (.ireturn, 1) := by decide +kernel
theorem dX6_drainTotal_0 : decode cX6_drainTotal 0 = .ok (.aload_n 0, 1) := by decide +kernel
theorem dX6_drainTotal_1 : decode cX6_drainTotal 1 = .ok (.getfield 12, 3) := by decide +kernel
theorem dX6_drainTotal_4 : decode cX6_drainTotal 4 = .ok (.getfield 70, 3) := by decide +kernel
theorem dX6_drainTotal_7 : decode cX6_drainTotal 7 = .ok (.getfield 122, 3) := by decide +kernel
theorem dX6_drainTotal_10 : decode cX6_drainTotal 10 = .ok (.ireturn, 1) := by decide +kernel
theorem dX6_spilledTotal_0 : decode cX6_spilledTotal 0 = .ok (.aload_n 0, 1) := by decide +kernel
theorem dX6_spilledTotal_1 : decode cX6_spilledTotal 1 = .ok (.getfield 12, 3) := by decide +kernel
theorem dX6_spilledTotal_4 : decode cX6_spilledTotal 4 = .ok (.getfield 70, 3) := by decide +kernel
theorem dX6_spilledTotal_7 : decode cX6_spilledTotal 7 = .ok (.getfield 125, 3) := by decide +kernel
theorem dX6_spilledTotal_10 : decode cX6_spilledTotal 10 = .ok (.ireturn, 1) := by decide +kernel
theorem dX6_basinByLevel_0 : decode cX6_basinByLevel 0 = .ok (.iconst 0, 1) := by decide +kernel
theorem dX6_basinByLevel_1 : decode cX6_basinByLevel 1 = .ok (.istore_n 2, 1) := by decide +kernel
theorem dX6_basinByLevel_2 : decode cX6_basinByLevel 2 = .ok (.iload_n 2, 1) := by decide +kernel
theorem dX6_basinByLevel_3 : decode cX6_basinByLevel 3 = .ok (.iconst 5, 1) := by decide +kernel
theorem dX6_basinByLevel_4 : decode cX6_basinByLevel 4 = .ok (.if_icmp .ge 26, 3) := by decide +kernel
theorem dX6_basinByLevel_7 : decode cX6_basinByLevel 7 = .ok (.aload_n 0, 1) := by decide +kernel
theorem dX6_basinByLevel_8 : decode cX6_basinByLevel 8 = .ok (.getfield 12, 3) := by decide +kernel
theorem dX6_basinByLevel_11 : decode cX6_basinByLevel 11 = .ok (.getfield 70, 3) := by decide +kernel
theorem dX6_basinByLevel_14 : decode cX6_basinByLevel 14 = .ok (.iload_n 2, 1) := by decide +kernel
theorem dX6_basinByLevel_15 : decode cX6_basinByLevel 15 = .ok (.invokevirtual 128, 3) := by decide +kernel
theorem dX6_basinByLevel_18 : decode cX6_basinByLevel 18 = .ok (.iload_n 1, 1) := by decide +kernel
theorem dX6_basinByLevel_19 : decode cX6_basinByLevel 19 = .ok (.if_icmp .ne 5, 3) := by decide +kernel
theorem dX6_basinByLevel_22 : decode cX6_basinByLevel 22 = .ok (.iload_n 2, 1) := by decide +kernel
theorem dX6_basinByLevel_23 : decode cX6_basinByLevel 23 = .ok (.ireturn, 1) := by decide +kernel
theorem dX6_basinByLevel_24 : decode cX6_basinByLevel 24 = .ok (.iinc 2 1, 3) := by decide +kernel
theorem dX6_basinByLevel_27 : decode cX6_basinByLevel 27 = .ok (.goto (-25), 3) := by decide +kernel
theorem dX6_basinByLevel_30 : decode cX6_basinByLevel 30 = .ok (.new 131, 3) := by decide +kernel
theorem dX6_basinByLevel_33 : decode cX6_basinByLevel 33 = .ok (.dup, 1) := by decide +kernel
theorem dX6_basinByLevel_34 : decode cX6_basinByLevel 34 = .ok (.ldc 133, 2) := by decide +kernel
theorem dX6_basinByLevel_36 : decode cX6_basinByLevel 36 = .ok (.invokespecial 135, 3) := by decide +kernel
theorem dX6_basinByLevel_39 : decode cX6_basinByLevel 39 = .ok (.athrow, 1) := by decide +kernel
theorem dX6_boatCount_0 : decode cX6_boatCount 0 = .ok (.aload_n 0, 1) := by decide +kernel
theorem dX6_boatCount_1 : decode cX6_boatCount 1 = .ok (.getfield 12, 3) := by decide +kernel
theorem dX6_boatCount_4 : decode cX6_boatCount 4 = .ok (.getfield 138, 3) := by decide +kernel
theorem dX6_boatCount_7 : decode cX6_boatCount 7 = .ok (.getfield 142, 3) := by decide +kernel
theorem dX6_boatCount_10 : decode cX6_boatCount 10 = .ok (.ireturn, 1) := by decide +kernel
theorem dX6_colour_0 : decode cX6_colour 0 = .ok (.aload_n 0, 1) := by decide +kernel
theorem dX6_colour_1 : decode cX6_colour 1 = .ok (.iload_n 1, 1) := by decide +kernel
theorem dX6_colour_2 : decode cX6_colour 2 = .ok (.invokevirtual 147, 3) := by decide +kernel
theorem dX6_colour_5 : decode cX6_colour 5 = .ok (.aload_n 0, 1) := by decide +kernel
theorem dX6_colour_6 : decode cX6_colour 6 = .ok (.getfield 12, 3) := by decide +kernel
theorem dX6_colour_9 : decode cX6_colour 9 = .ok (.getfield 138, 3) := by decide +kernel
theorem dX6_colour_12 : decode cX6_colour 12 = .ok (.iload_n 1, 1) := by decide +kernel
theorem dX6_colour_13 : decode cX6_colour 13 = .ok (.invokevirtual 150, 3) := by decide +kernel
theorem dX6_colour_16 : decode cX6_colour 16 = .ok (.ireturn, 1) := by decide +kernel
theorem dX6_draught_0 : decode cX6_draught 0 = .ok (.aload_n 0, 1) := by decide +kernel
theorem dX6_draught_1 : decode cX6_draught 1 = .ok (.iload_n 1, 1) := by decide +kernel
theorem dX6_draught_2 : decode cX6_draught 2 = .ok (.invokevirtual 147, 3) := by decide +kernel
theorem dX6_draught_5 : decode cX6_draught 5 = .ok (.aload_n 0, 1) := by decide +kernel
theorem dX6_draught_6 : decode cX6_draught 6 = .ok (.getfield 12, 3) := by decide +kernel
theorem dX6_draught_9 : decode cX6_draught 9 = .ok (.getfield 138, 3) := by decide +kernel
theorem dX6_draught_12 : decode cX6_draught 12 = .ok (.getfield 154, 3) := by decide +kernel
theorem dX6_draught_15 : decode cX6_draught 15 = .ok (.iload_n 1, 1) := by decide +kernel
theorem dX6_draught_16 : decode cX6_draught 16 = .ok (.iaload, 1) := by decide +kernel
theorem dX6_draught_17 : decode cX6_draught 17 = .ok (.ireturn, 1) := by decide +kernel
theorem dX6_isGoingDown_0 : decode cX6_isGoingDown 0 = .ok (.aload_n 0, 1) := by decide +kernel
theorem dX6_isGoingDown_1 : decode cX6_isGoingDown 1 = .ok (.iload_n 1, 1) := by decide +kernel
theorem dX6_isGoingDown_2 : decode cX6_isGoingDown 2 = .ok (.invokevirtual 147, 3) := by decide +kernel
theorem dX6_isGoingDown_5 : decode cX6_isGoingDown 5 = .ok (.aload_n 0, 1) := by decide +kernel
theorem dX6_isGoingDown_6 : decode cX6_isGoingDown 6 = .ok (.getfield 12, 3) := by decide +kernel
theorem dX6_isGoingDown_9 : decode cX6_isGoingDown 9 = .ok (.getfield 138, 3) := by decide +kernel
theorem dX6_isGoingDown_12 : decode cX6_isGoingDown 12 = .ok (.getfield 157, 3) := by decide +kernel
theorem dX6_isGoingDown_15 : decode cX6_isGoingDown 15 = .ok (.iload_n 1, 1) := by decide +kernel
theorem dX6_isGoingDown_16 : decode cX6_isGoingDown 16 = .ok (.baload, 1) := by decide +kernel
theorem dX6_isGoingDown_17 : decode cX6_isGoingDown 17 = .ok (.ireturn, 1) := by decide +kernel
theorem dX6_basinOf_0 : decode cX6_basinOf 0 = .ok (.aload_n 0, 1) := by decide +kernel
theorem dX6_basinOf_1 : decode cX6_basinOf 1 = .ok (.iload_n 1, 1) := by decide +kernel
theorem dX6_basinOf_2 : decode cX6_basinOf 2 = .ok (.invokevirtual 147, 3) := by decide +kernel
theorem dX6_basinOf_5 : decode cX6_basinOf 5 = .ok (.aload_n 0, 1) := by decide +kernel
theorem dX6_basinOf_6 : decode cX6_basinOf 6 = .ok (.getfield 12, 3) := by decide +kernel
theorem dX6_basinOf_9 : decode cX6_basinOf 9 = .ok (.getfield 138, 3) := by decide +kernel
theorem dX6_basinOf_12 : decode cX6_basinOf 12 = .ok (.getfield 160, 3) := by decide +kernel
theorem dX6_basinOf_15 : decode cX6_basinOf 15 = .ok (.iload_n 1, 1) := by decide +kernel
theorem dX6_basinOf_16 : decode cX6_basinOf 16 = .ok (.iaload, 1) := by decide +kernel
theorem dX6_basinOf_17 : decode cX6_basinOf 17 = .ok (.ireturn, 1) := by decide +kernel
theorem dX6_boatsIn_0 : decode cX6_boatsIn 0 = .ok (.iload_n 1, 1) := by decide +kernel
theorem dX6_boatsIn_1 : decode cX6_boatsIn 1 = .ok (.invokestatic 62, 3) := by decide +kernel
theorem dX6_boatsIn_4 : decode cX6_boatsIn 4 = .ok (.aload_n 0, 1) := by decide +kernel
theorem dX6_boatsIn_5 : decode cX6_boatsIn 5 = .ok (.getfield 12, 3) := by decide +kernel
theorem dX6_boatsIn_8 : decode cX6_boatsIn 8 = .ok (.getfield 138, 3) := by decide +kernel
theorem dX6_boatsIn_11 : decode cX6_boatsIn 11 = .ok (.iload_n 1, 1) := by decide +kernel
theorem dX6_boatsIn_12 : decode cX6_boatsIn 12 = .ok (.invokevirtual 163, 3) := by decide +kernel
theorem dX6_boatsIn_15 : decode cX6_boatsIn 15 = .ok (.ireturn, 1) := by decide +kernel
theorem dX6_boatInOrder_0 : decode cX6_boatInOrder 0 = .ok (.iconst 0, 1) := by decide +kernel
theorem dX6_boatInOrder_1 : decode cX6_boatInOrder 1 = .ok (.istore_n 2, 1) := by decide +kernel
theorem dX6_boatInOrder_2 : decode cX6_boatInOrder 2 = .ok (.iload_n 2, 1) := by decide +kernel
theorem dX6_boatInOrder_3 : decode cX6_boatInOrder 3 = .ok (.aload_n 0, 1) := by decide +kernel
theorem dX6_boatInOrder_4 : decode cX6_boatInOrder 4 = .ok (.getfield 12, 3) := by decide +kernel
theorem dX6_boatInOrder_7 : decode cX6_boatInOrder 7 = .ok (.getfield 138, 3) := by decide +kernel
theorem dX6_boatInOrder_10 : decode cX6_boatInOrder 10 = .ok (.getfield 142, 3) := by decide +kernel
theorem dX6_boatInOrder_13 : decode cX6_boatInOrder 13 = .ok (.if_icmp .ge 26, 3) := by decide +kernel
theorem dX6_boatInOrder_16 : decode cX6_boatInOrder 16 = .ok (.aload_n 0, 1) := by decide +kernel
theorem dX6_boatInOrder_17 : decode cX6_boatInOrder 17 = .ok (.getfield 12, 3) := by decide +kernel
theorem dX6_boatInOrder_20 : decode cX6_boatInOrder 20 = .ok (.getfield 138, 3) := by decide +kernel
theorem dX6_boatInOrder_23 : decode cX6_boatInOrder 23 = .ok (.iload_n 2, 1) := by decide +kernel
theorem dX6_boatInOrder_24 : decode cX6_boatInOrder 24 = .ok (.invokevirtual 166, 3) := by decide +kernel
theorem dX6_boatInOrder_27 : decode cX6_boatInOrder 27 = .ok (.iload_n 1, 1) := by decide +kernel
theorem dX6_boatInOrder_28 : decode cX6_boatInOrder 28 = .ok (.if_icmp .ne 5, 3) := by decide +kernel
theorem dX6_boatInOrder_31 : decode cX6_boatInOrder 31 = .ok (.iload_n 2, 1) := by decide +kernel
theorem dX6_boatInOrder_32 : decode cX6_boatInOrder 32 = .ok (.ireturn, 1) := by decide +kernel
theorem dX6_boatInOrder_33 : decode cX6_boatInOrder 33 = .ok (.iinc 2 1, 3) := by decide +kernel
theorem dX6_boatInOrder_36 : decode cX6_boatInOrder 36 = .ok (.goto (-34), 3) := by decide +kernel
theorem dX6_boatInOrder_39 : decode cX6_boatInOrder 39 = .ok (.new 131, 3) := by decide +kernel
theorem dX6_boatInOrder_42 : decode cX6_boatInOrder 42 = .ok (.dup, 1) := by decide +kernel
theorem dX6_boatInOrder_43 : decode cX6_boatInOrder 43 = .ok (.ldc 133, 2) := by decide +kernel
theorem dX6_boatInOrder_45 : decode cX6_boatInOrder 45 = .ok (.invokespecial 135, 3) := by decide +kernel
theorem dX6_boatInOrder_48 : decode cX6_boatInOrder 48 = .ok (.athrow, 1) := by decide +kernel
theorem dX6_floats_0 : decode cX6_floats 0 = .ok (.aload_n 0, 1) := by decide +kernel
theorem dX6_floats_1 : decode cX6_floats 1 = .ok (.iload_n 1, 1) := by decide +kernel
theorem dX6_floats_2 : decode cX6_floats 2 = .ok (.invokevirtual 147, 3) := by decide +kernel
theorem dX6_floats_5 : decode cX6_floats 5 = .ok (.iload_n 2, 1) := by decide +kernel
theorem dX6_floats_6 : decode cX6_floats 6 = .ok (.invokestatic 62, 3) := by decide +kernel
theorem dX6_floats_9 : decode cX6_floats 9 = .ok (.aload_n 0, 1) := by decide +kernel
theorem dX6_floats_10 : decode cX6_floats 10 = .ok (.getfield 12, 3) := by decide +kernel
theorem dX6_floats_13 : decode cX6_floats 13 = .ok (.getfield 70, 3) := by decide +kernel
theorem dX6_floats_16 : decode cX6_floats 16 = .ok (.iload_n 2, 1) := by decide +kernel
theorem dX6_floats_17 : decode cX6_floats 17 = .ok (.aload_n 0, 1) := by decide +kernel
theorem dX6_floats_18 : decode cX6_floats 18 = .ok (.getfield 12, 3) := by decide +kernel
theorem dX6_floats_21 : decode cX6_floats 21 = .ok (.getfield 138, 3) := by decide +kernel
theorem dX6_floats_24 : decode cX6_floats 24 = .ok (.getfield 154, 3) := by decide +kernel
theorem dX6_floats_27 : decode cX6_floats 27 = .ok (.iload_n 1, 1) := by decide +kernel
theorem dX6_floats_28 : decode cX6_floats 28 = .ok (.iaload, 1) := by decide +kernel
theorem dX6_floats_29 : decode cX6_floats 29 = .ok (.invokevirtual 169, 3) := by decide +kernel
theorem dX6_floats_32 : decode cX6_floats 32 = .ok (.ireturn, 1) := by decide +kernel
theorem dX6_leftTotal_0 : decode cX6_leftTotal 0 = .ok (.iload_n 1, 1) := by decide +kernel
theorem dX6_leftTotal_1 : decode cX6_leftTotal 1 = .ok (.invokestatic 173, 3) := by decide +kernel
theorem dX6_leftTotal_4 : decode cX6_leftTotal 4 = .ok (.istore_n 2, 1) := by decide +kernel
theorem dX6_leftTotal_5 : decode cX6_leftTotal 5 = .ok (.iload_n 2, 1) := by decide +kernel
theorem dX6_leftTotal_6 : decode cX6_leftTotal 6 = .ok (.iconst (-1), 1) := by decide +kernel
theorem dX6_leftTotal_7 : decode cX6_leftTotal 7 = .ok (.if_icmp .ne 13, 3) := by decide +kernel
theorem dX6_leftTotal_10 : decode cX6_leftTotal 10 = .ok (.new 176, 3) := by decide +kernel
theorem dX6_leftTotal_13 : decode cX6_leftTotal 13 = .ok (.dup, 1) := by decide +kernel
theorem dX6_leftTotal_14 : decode cX6_leftTotal 14 = .ok (.ldc 178, 2) := by decide +kernel
theorem dX6_leftTotal_16 : decode cX6_leftTotal 16 = .ok (.invokespecial 180, 3) := by decide +kernel
theorem dX6_leftTotal_19 : decode cX6_leftTotal 19 = .ok (.athrow, 1) := by decide +kernel
theorem dX6_leftTotal_20 : decode cX6_leftTotal 20 = .ok (.aload_n 0, 1) := by decide +kernel
theorem dX6_leftTotal_21 : decode cX6_leftTotal 21 = .ok (.getfield 12, 3) := by decide +kernel
theorem dX6_leftTotal_24 : decode cX6_leftTotal 24 = .ok (.getfield 138, 3) := by decide +kernel
theorem dX6_leftTotal_27 : decode cX6_leftTotal 27 = .ok (.getfield 181, 3) := by decide +kernel
theorem dX6_leftTotal_30 : decode cX6_leftTotal 30 = .ok (.iload_n 2, 1) := by decide +kernel
theorem dX6_leftTotal_31 : decode cX6_leftTotal 31 = .ok (.iaload, 1) := by decide +kernel
theorem dX6_leftTotal_32 : decode cX6_leftTotal 32 = .ok (.ireturn, 1) := by decide +kernel
theorem dX6_minutesUntilLeaving_0 : decode cX6_minutesUntilLeaving 0 = .ok (.aload_n 0, 1) := by decide +kernel
theorem dX6_minutesUntilLeaving_1 : decode cX6_minutesUntilLeaving 1 = .ok (.iload_n 1, 1) := by decide +kernel
theorem dX6_minutesUntilLeaving_2 : decode cX6_minutesUntilLeaving 2 = .ok (.invokevirtual 147, 3) := by decide +kernel
theorem dX6_minutesUntilLeaving_5 : decode cX6_minutesUntilLeaving 5 = .ok (.aload_n 0, 1) := by decide +kernel
theorem dX6_minutesUntilLeaving_6 : decode cX6_minutesUntilLeaving 6 = .ok (.getfield 12, 3) := by decide +kernel
theorem dX6_minutesUntilLeaving_9 : decode cX6_minutesUntilLeaving 9 = .ok (.getfield 138, 3) := by decide +kernel
theorem dX6_minutesUntilLeaving_12 : decode cX6_minutesUntilLeaving 12 = .ok (.getfield 184, 3) := by decide +kernel
theorem dX6_minutesUntilLeaving_15 : decode cX6_minutesUntilLeaving 15 = .ok (.iload_n 1, 1) := by decide +kernel
theorem dX6_minutesUntilLeaving_16 : decode cX6_minutesUntilLeaving 16 = .ok (.iaload, 1) := by decide +kernel
theorem dX6_minutesUntilLeaving_17 : decode cX6_minutesUntilLeaving 17 = .ok (.istore_n 2, 1) := by decide +kernel
theorem dX6_minutesUntilLeaving_18 : decode cX6_minutesUntilLeaving 18 = .ok (.aload_n 0, 1) := by decide +kernel
theorem dX6_minutesUntilLeaving_19 : decode cX6_minutesUntilLeaving 19 = .ok (.getfield 16, 3) := by decide +kernel
theorem dX6_minutesUntilLeaving_22 : decode cX6_minutesUntilLeaving 22 = .ok (.aload_n 0, 1) := by decide +kernel
theorem dX6_minutesUntilLeaving_23 : decode cX6_minutesUntilLeaving 23 = .ok (.getfield 12, 3) := by decide +kernel
theorem dX6_minutesUntilLeaving_26 : decode cX6_minutesUntilLeaving 26 = .ok (.invokevirtual 187, 3) := by decide +kernel
theorem dX6_minutesUntilLeaving_29 : decode cX6_minutesUntilLeaving 29 = .ok (.iconst 1, 1) := by decide +kernel
theorem dX6_minutesUntilLeaving_30 : decode cX6_minutesUntilLeaving 30 = .ok (.istore_n 3, 1) := by decide +kernel
theorem dX6_minutesUntilLeaving_31 : decode cX6_minutesUntilLeaving 31 = .ok (.iload_n 3, 1) := by decide +kernel
theorem dX6_minutesUntilLeaving_32 : decode cX6_minutesUntilLeaving 32 = .ok (.sipush 200, 3) := by decide +kernel
theorem dX6_minutesUntilLeaving_35 : decode cX6_minutesUntilLeaving 35 = .ok (.if_icmp .gt 34, 3) := by decide +kernel
theorem dX6_minutesUntilLeaving_38 : decode cX6_minutesUntilLeaving 38 = .ok (.aload_n 0, 1) := by decide +kernel
theorem dX6_minutesUntilLeaving_39 : decode cX6_minutesUntilLeaving 39 = .ok (.getfield 16, 3) := by decide +kernel
theorem dX6_minutesUntilLeaving_42 : decode cX6_minutesUntilLeaving 42 = .ok (.iconst 1, 1) := by decide +kernel
theorem dX6_minutesUntilLeaving_43 : decode cX6_minutesUntilLeaving 43 = .ok (.invokevirtual 191, 3) := by decide +kernel
theorem dX6_minutesUntilLeaving_46 : decode cX6_minutesUntilLeaving 46 = .ok (.pop, 1) := by decide +kernel
theorem dX6_minutesUntilLeaving_47 : decode cX6_minutesUntilLeaving 47 = .ok (.aload_n 0, 1) := by decide +kernel
theorem dX6_minutesUntilLeaving_48 : decode cX6_minutesUntilLeaving 48 = .ok (.getfield 16, 3) := by decide +kernel
theorem dX6_minutesUntilLeaving_51 : decode cX6_minutesUntilLeaving 51 = .ok (.getfield 138, 3) := by decide +kernel
theorem dX6_minutesUntilLeaving_54 : decode cX6_minutesUntilLeaving 54 = .ok (.iload_n 2, 1) := by decide +kernel
theorem dX6_minutesUntilLeaving_55 : decode cX6_minutesUntilLeaving 55 = .ok (.invokevirtual 194, 3) := by decide +kernel
theorem dX6_minutesUntilLeaving_58 : decode cX6_minutesUntilLeaving 58 = .ok (.ifCond .ne 5, 3) := by decide +kernel
theorem dX6_minutesUntilLeaving_61 : decode cX6_minutesUntilLeaving 61 = .ok (.iload_n 3, 1) := by decide +kernel
theorem dX6_minutesUntilLeaving_62 : decode cX6_minutesUntilLeaving 62 = .ok (.ireturn, 1) := by decide +kernel
theorem dX6_minutesUntilLeaving_63 : decode cX6_minutesUntilLeaving 63 = .ok (.iinc 3 1, 3) := by decide +kernel
theorem dX6_minutesUntilLeaving_66 : decode cX6_minutesUntilLeaving 66 = .ok (.goto (-35), 3) := by decide +kernel
theorem dX6_minutesUntilLeaving_69 : decode cX6_minutesUntilLeaving 69 = .ok (.new 131, 3) := by decide +kernel
theorem dX6_minutesUntilLeaving_72 : decode cX6_minutesUntilLeaving 72 = .ok (.dup, 1) := by decide +kernel
theorem dX6_minutesUntilLeaving_73 : decode cX6_minutesUntilLeaving 73 = .ok (.ldc 198, 2) := by decide +kernel
theorem dX6_minutesUntilLeaving_75 : decode cX6_minutesUntilLeaving 75 = .ok (.invokespecial 135, 3) := by decide +kernel
theorem dX6_minutesUntilLeaving_78 : decode cX6_minutesUntilLeaving 78 = .ok (.athrow, 1) := by decide +kernel
theorem dX6_minutesUntilEqual_0 : decode cX6_minutesUntilEqual 0 = .ok (.iload_n 1, 1) := by decide +kernel
theorem dX6_minutesUntilEqual_1 : decode cX6_minutesUntilEqual 1 = .ok (.invokestatic 87, 3) := by decide +kernel
theorem dX6_minutesUntilEqual_4 : decode cX6_minutesUntilEqual 4 = .ok (.aload_n 0, 1) := by decide +kernel
theorem dX6_minutesUntilEqual_5 : decode cX6_minutesUntilEqual 5 = .ok (.getfield 16, 3) := by decide +kernel
theorem dX6_minutesUntilEqual_8 : decode cX6_minutesUntilEqual 8 = .ok (.aload_n 0, 1) := by decide +kernel
theorem dX6_minutesUntilEqual_9 : decode cX6_minutesUntilEqual 9 = .ok (.getfield 12, 3) := by decide +kernel
theorem dX6_minutesUntilEqual_12 : decode cX6_minutesUntilEqual 12 = .ok (.invokevirtual 187, 3) := by decide +kernel
theorem dX6_minutesUntilEqual_15 : decode cX6_minutesUntilEqual 15 = .ok (.iconst 0, 1) := by decide +kernel
theorem dX6_minutesUntilEqual_16 : decode cX6_minutesUntilEqual 16 = .ok (.istore_n 2, 1) := by decide +kernel
theorem dX6_minutesUntilEqual_17 : decode cX6_minutesUntilEqual 17 = .ok (.iload_n 2, 1) := by decide +kernel
theorem dX6_minutesUntilEqual_18 : decode cX6_minutesUntilEqual 18 = .ok (.sipush 200, 3) := by decide +kernel
theorem dX6_minutesUntilEqual_21 : decode cX6_minutesUntilEqual 21 = .ok (.if_icmp .gt 34, 3) := by decide +kernel
theorem dX6_minutesUntilEqual_24 : decode cX6_minutesUntilEqual 24 = .ok (.aload_n 0, 1) := by decide +kernel
theorem dX6_minutesUntilEqual_25 : decode cX6_minutesUntilEqual 25 = .ok (.getfield 16, 3) := by decide +kernel
theorem dX6_minutesUntilEqual_28 : decode cX6_minutesUntilEqual 28 = .ok (.getfield 70, 3) := by decide +kernel
theorem dX6_minutesUntilEqual_31 : decode cX6_minutesUntilEqual 31 = .ok (.iload_n 1, 1) := by decide +kernel
theorem dX6_minutesUntilEqual_32 : decode cX6_minutesUntilEqual 32 = .ok (.invokevirtual 90, 3) := by decide +kernel
theorem dX6_minutesUntilEqual_35 : decode cX6_minutesUntilEqual 35 = .ok (.ifCond .ne 5, 3) := by decide +kernel
theorem dX6_minutesUntilEqual_38 : decode cX6_minutesUntilEqual 38 = .ok (.iload_n 2, 1) := by decide +kernel
theorem dX6_minutesUntilEqual_39 : decode cX6_minutesUntilEqual 39 = .ok (.ireturn, 1) := by decide +kernel
theorem dX6_minutesUntilEqual_40 : decode cX6_minutesUntilEqual 40 = .ok (.aload_n 0, 1) := by decide +kernel
theorem dX6_minutesUntilEqual_41 : decode cX6_minutesUntilEqual 41 = .ok (.getfield 16, 3) := by decide +kernel
theorem dX6_minutesUntilEqual_44 : decode cX6_minutesUntilEqual 44 = .ok (.iconst 1, 1) := by decide +kernel
theorem dX6_minutesUntilEqual_45 : decode cX6_minutesUntilEqual 45 = .ok (.invokevirtual 191, 3) := by decide +kernel
theorem dX6_minutesUntilEqual_48 : decode cX6_minutesUntilEqual 48 = .ok (.pop, 1) := by decide +kernel
theorem dX6_minutesUntilEqual_49 : decode cX6_minutesUntilEqual 49 = .ok (.iinc 2 1, 3) := by decide +kernel
theorem dX6_minutesUntilEqual_52 : decode cX6_minutesUntilEqual 52 = .ok (.goto (-35), 3) := by decide +kernel
theorem dX6_minutesUntilEqual_55 : decode cX6_minutesUntilEqual 55 = .ok (.new 131, 3) := by decide +kernel
theorem dX6_minutesUntilEqual_58 : decode cX6_minutesUntilEqual 58 = .ok (.dup, 1) := by decide +kernel
theorem dX6_minutesUntilEqual_59 : decode cX6_minutesUntilEqual 59 = .ok (.ldc 200, 2) := by decide +kernel
theorem dX6_minutesUntilEqual_61 : decode cX6_minutesUntilEqual 61 = .ok (.invokespecial 135, 3) := by decide +kernel
theorem dX6_minutesUntilEqual_64 : decode cX6_minutesUntilEqual 64 = .ok (.athrow, 1) := by decide +kernel
theorem dX6_volumeAfter_0 : decode cX6_volumeAfter 0 = .ok (.iload_n 1, 1) := by decide +kernel
theorem dX6_volumeAfter_1 : decode cX6_volumeAfter 1 = .ok (.invokestatic 62, 3) := by decide +kernel
theorem dX6_volumeAfter_4 : decode cX6_volumeAfter 4 = .ok (.iload_n 2, 1) := by decide +kernel
theorem dX6_volumeAfter_5 : decode cX6_volumeAfter 5 = .ok (.ifCond .lt 10, 3) := by decide +kernel
theorem dX6_volumeAfter_8 : decode cX6_volumeAfter 8 = .ok (.iload_n 2, 1) := by decide +kernel
theorem dX6_volumeAfter_9 : decode cX6_volumeAfter 9 = .ok (.sipush 200, 3) := by decide +kernel
theorem dX6_volumeAfter_12 : decode cX6_volumeAfter 12 = .ok (.if_icmp .le 13, 3) := by decide +kernel
theorem dX6_volumeAfter_15 : decode cX6_volumeAfter 15 = .ok (.new 176, 3) := by decide +kernel
theorem dX6_volumeAfter_18 : decode cX6_volumeAfter 18 = .ok (.dup, 1) := by decide +kernel
theorem dX6_volumeAfter_19 : decode cX6_volumeAfter 19 = .ok (.ldc 202, 2) := by decide +kernel
theorem dX6_volumeAfter_21 : decode cX6_volumeAfter 21 = .ok (.invokespecial 180, 3) := by decide +kernel
theorem dX6_volumeAfter_24 : decode cX6_volumeAfter 24 = .ok (.athrow, 1) := by decide +kernel
theorem dX6_volumeAfter_25 : decode cX6_volumeAfter 25 = .ok (.aload_n 0, 1) := by decide +kernel
theorem dX6_volumeAfter_26 : decode cX6_volumeAfter 26 = .ok (.getfield 16, 3) := by decide +kernel
theorem dX6_volumeAfter_29 : decode cX6_volumeAfter 29 = .ok (.aload_n 0, 1) := by decide +kernel
theorem dX6_volumeAfter_30 : decode cX6_volumeAfter 30 = .ok (.getfield 12, 3) := by decide +kernel
theorem dX6_volumeAfter_33 : decode cX6_volumeAfter 33 = .ok (.invokevirtual 187, 3) := by decide +kernel
theorem dX6_volumeAfter_36 : decode cX6_volumeAfter 36 = .ok (.aload_n 0, 1) := by decide +kernel
theorem dX6_volumeAfter_37 : decode cX6_volumeAfter 37 = .ok (.getfield 16, 3) := by decide +kernel
theorem dX6_volumeAfter_40 : decode cX6_volumeAfter 40 = .ok (.iload_n 2, 1) := by decide +kernel
theorem dX6_volumeAfter_41 : decode cX6_volumeAfter 41 = .ok (.invokevirtual 191, 3) := by decide +kernel
theorem dX6_volumeAfter_44 : decode cX6_volumeAfter 44 = .ok (.pop, 1) := by decide +kernel
theorem dX6_volumeAfter_45 : decode cX6_volumeAfter 45 = .ok (.aload_n 0, 1) := by decide +kernel
theorem dX6_volumeAfter_46 : decode cX6_volumeAfter 46 = .ok (.getfield 16, 3) := by decide +kernel
theorem dX6_volumeAfter_49 : decode cX6_volumeAfter 49 = .ok (.getfield 70, 3) := by decide +kernel
theorem dX6_volumeAfter_52 : decode cX6_volumeAfter 52 = .ok (.getfield 74, 3) := by decide +kernel
theorem dX6_volumeAfter_55 : decode cX6_volumeAfter 55 = .ok (.iload_n 1, 1) := by decide +kernel
theorem dX6_volumeAfter_56 : decode cX6_volumeAfter 56 = .ok (.iaload, 1) := by decide +kernel
theorem dX6_volumeAfter_57 : decode cX6_volumeAfter 57 = .ok (.ireturn, 1) := by decide +kernel
theorem dX6_eventCount_0 : decode cX6_eventCount 0 = .ok (.aload_n 0, 1) := by decide +kernel
theorem dX6_eventCount_1 : decode cX6_eventCount 1 = .ok (.getfield 12, 3) := by decide +kernel
theorem dX6_eventCount_4 : decode cX6_eventCount 4 = .ok (.getfield 204, 3) := by decide +kernel
theorem dX6_eventCount_7 : decode cX6_eventCount 7 = .ok (.getfield 208, 3) := by decide +kernel
theorem dX6_eventCount_10 : decode cX6_eventCount 10 = .ok (.ireturn, 1) := by decide +kernel
theorem dX6_eventKind_0 : decode cX6_eventKind 0 = .ok (.aload_n 0, 1) := by decide +kernel
theorem dX6_eventKind_1 : decode cX6_eventKind 1 = .ok (.iload_n 1, 1) := by decide +kernel
theorem dX6_eventKind_2 : decode cX6_eventKind 2 = .ok (.invokevirtual 211, 3) := by decide +kernel
theorem dX6_eventKind_5 : decode cX6_eventKind 5 = .ok (.aload_n 0, 1) := by decide +kernel
theorem dX6_eventKind_6 : decode cX6_eventKind 6 = .ok (.getfield 12, 3) := by decide +kernel
theorem dX6_eventKind_9 : decode cX6_eventKind 9 = .ok (.getfield 204, 3) := by decide +kernel
theorem dX6_eventKind_12 : decode cX6_eventKind 12 = .ok (.getfield 214, 3) := by decide +kernel
theorem dX6_eventKind_15 : decode cX6_eventKind 15 = .ok (.aload_n 0, 1) := by decide +kernel
theorem dX6_eventKind_16 : decode cX6_eventKind 16 = .ok (.getfield 12, 3) := by decide +kernel
theorem dX6_eventKind_19 : decode cX6_eventKind 19 = .ok (.getfield 204, 3) := by decide +kernel
theorem dX6_eventKind_22 : decode cX6_eventKind 22 = .ok (.iload_n 1, 1) := by decide +kernel
theorem dX6_eventKind_23 : decode cX6_eventKind 23 = .ok (.invokevirtual 218, 3) := by decide +kernel
theorem dX6_eventKind_26 : decode cX6_eventKind 26 = .ok (.caload, 1) := by decide +kernel
theorem dX6_eventKind_27 : decode cX6_eventKind 27 = .ok (.ireturn, 1) := by decide +kernel
theorem dX6_eventNumber_0 : decode cX6_eventNumber 0 = .ok (.aload_n 0, 1) := by decide +kernel
theorem dX6_eventNumber_1 : decode cX6_eventNumber 1 = .ok (.iload_n 1, 1) := by decide +kernel
theorem dX6_eventNumber_2 : decode cX6_eventNumber 2 = .ok (.invokevirtual 211, 3) := by decide +kernel
theorem dX6_eventNumber_5 : decode cX6_eventNumber 5 = .ok (.aload_n 0, 1) := by decide +kernel
theorem dX6_eventNumber_6 : decode cX6_eventNumber 6 = .ok (.getfield 12, 3) := by decide +kernel
theorem dX6_eventNumber_9 : decode cX6_eventNumber 9 = .ok (.getfield 204, 3) := by decide +kernel
theorem dX6_eventNumber_12 : decode cX6_eventNumber 12 = .ok (.getfield 221, 3) := by decide +kernel
theorem dX6_eventNumber_15 : decode cX6_eventNumber 15 = .ok (.aload_n 0, 1) := by decide +kernel
theorem dX6_eventNumber_16 : decode cX6_eventNumber 16 = .ok (.getfield 12, 3) := by decide +kernel
theorem dX6_eventNumber_19 : decode cX6_eventNumber 19 = .ok (.getfield 204, 3) := by decide +kernel
theorem dX6_eventNumber_22 : decode cX6_eventNumber 22 = .ok (.iload_n 1, 1) := by decide +kernel
theorem dX6_eventNumber_23 : decode cX6_eventNumber 23 = .ok (.invokevirtual 218, 3) := by decide +kernel
theorem dX6_eventNumber_26 : decode cX6_eventNumber 26 = .ok (.iaload, 1) := by decide +kernel
theorem dX6_eventNumber_27 : decode cX6_eventNumber 27 = .ok (.ireturn, 1) := by decide +kernel
theorem dX6_time_0 : decode cX6_time 0 = .ok (.aload_n 0, 1) := by decide +kernel
theorem dX6_time_1 : decode cX6_time 1 = .ok (.getfield 12, 3) := by decide +kernel
theorem dX6_time_4 : decode cX6_time 4 = .ok (.getfield 224, 3) := by decide +kernel
theorem dX6_time_7 : decode cX6_time 7 = .ok (.ireturn, 1) := by decide +kernel
theorem dX6_meanLevel_0 : decode cX6_meanLevel 0 = .ok (.aload_n 0, 1) := by decide +kernel
theorem dX6_meanLevel_1 : decode cX6_meanLevel 1 = .ok (.getfield 12, 3) := by decide +kernel
theorem dX6_meanLevel_4 : decode cX6_meanLevel 4 = .ok (.getfield 70, 3) := by decide +kernel
theorem dX6_meanLevel_7 : decode cX6_meanLevel 7 = .ok (.invokevirtual 112, 3) := by decide +kernel
theorem dX6_meanLevel_10 : decode cX6_meanLevel 10 = .ok (.i2f, 1) := by decide +kernel
theorem dX6_meanLevel_11 : decode cX6_meanLevel 11 = .ok (.ldc 227, 2) := by decide +kernel
theorem dX6_meanLevel_13 : decode cX6_meanLevel 13 = .ok (.fdiv, 1) := by decide +kernel
theorem dX6_meanLevel_14 : decode cX6_meanLevel 14 = .ok (.freturn, 1) := by decide +kernel
theorem dX6_isConsistent_0 : decode cX6_isConsistent 0 = .ok (.aload_n 0, 1) := by decide +kernel
theorem dX6_isConsistent_1 : decode cX6_isConsistent 1 = .ok (.getfield 12, 3) := by decide +kernel
theorem dX6_isConsistent_4 : decode cX6_isConsistent 4 = .ok (.getfield 70, 3) := by decide +kernel
theorem dX6_isConsistent_7 : decode cX6_isConsistent 7 = .ok (.invokevirtual 228, 3) := by decide +kernel
theorem dX6_isConsistent_10 : decode cX6_isConsistent 10 = .ok (.ifCond .eq 56, 3) := by decide +kernel
theorem dX6_isConsistent_13 : decode cX6_isConsistent 13 = .ok (.aload_n 0, 1) := by decide +kernel
theorem dX6_isConsistent_14 : decode cX6_isConsistent 14 = .ok (.getfield 12, 3) := by decide +kernel
theorem dX6_isConsistent_17 : decode cX6_isConsistent 17 = .ok (.getfield 70, 3) := by decide +kernel
theorem dX6_isConsistent_20 : decode cX6_isConsistent 20 = .ok (.invokevirtual 112, 3) := by decide +kernel
theorem dX6_isConsistent_23 : decode cX6_isConsistent 23 = .ok (.aload_n 0, 1) := by decide +kernel
theorem dX6_isConsistent_24 : decode cX6_isConsistent 24 = .ok (.getfield 12, 3) := by decide +kernel
theorem dX6_isConsistent_27 : decode cX6_isConsistent 27 = .ok (.getfield 70, 3) := by decide +kernel
theorem dX6_isConsistent_30 : decode cX6_isConsistent 30 = .ok (.invokevirtual 116, 3) := by decide +kernel
theorem dX6_isConsistent_33 : decode cX6_isConsistent 33 = .ok (.if_icmp .ne 33, 3) := by decide +kernel
theorem dX6_isConsistent_36 : decode cX6_isConsistent 36 = .ok (.aload_n 0, 1) := by decide +kernel
theorem dX6_isConsistent_37 : decode cX6_isConsistent 37 = .ok (.getfield 12, 3) := by decide +kernel
theorem dX6_isConsistent_40 : decode cX6_isConsistent 40 = .ok (.getfield 70, 3) := by decide +kernel
theorem dX6_isConsistent_43 : decode cX6_isConsistent 43 = .ok (.invokevirtual 232, 3) := by decide +kernel
theorem dX6_isConsistent_46 : decode cX6_isConsistent 46 = .ok (.ifCond .eq 20, 3) := by decide +kernel
theorem dX6_isConsistent_49 : decode cX6_isConsistent 49 = .ok (.aload_n 0, 1) := by decide +kernel
theorem dX6_isConsistent_50 : decode cX6_isConsistent 50 = .ok (.getfield 12, 3) := by decide +kernel
theorem dX6_isConsistent_53 : decode cX6_isConsistent 53 = .ok (.getfield 138, 3) := by decide +kernel
theorem dX6_isConsistent_56 : decode cX6_isConsistent 56 = .ok (.invokevirtual 235, 3) := by decide +kernel
theorem dX6_isConsistent_59 : decode cX6_isConsistent 59 = .ok (.ifCond .eq 7, 3) := by decide +kernel
theorem dX6_isConsistent_62 : decode cX6_isConsistent 62 = .ok (.iconst 1, 1) := by decide +kernel
theorem dX6_isConsistent_63 : decode cX6_isConsistent 63 = .ok (.goto 4, 3) := by decide +kernel
theorem dX6_isConsistent_66 : decode cX6_isConsistent 66 = .ok (.iconst 0, 1) := by decide +kernel
theorem dX6_isConsistent_67 : decode cX6_isConsistent 67 = .ok (.ireturn, 1) := by decide +kernel
theorem dX6_renderLevels_0 : decode cX6_renderLevels 0 = .ok (.aload_n 0, 1) := by decide +kernel
theorem dX6_renderLevels_1 : decode cX6_renderLevels 1 = .ok (.getfield 43, 3) := by decide +kernel
theorem dX6_renderLevels_4 : decode cX6_renderLevels 4 = .ok (.iconst 0, 1) := by decide +kernel
theorem dX6_renderLevels_5 : decode cX6_renderLevels 5 = .ok (.invokevirtual 238, 3) := by decide +kernel
theorem dX6_renderLevels_8 : decode cX6_renderLevels 8 = .ok (.iconst 0, 1) := by decide +kernel
theorem dX6_renderLevels_9 : decode cX6_renderLevels 9 = .ok (.istore_n 1, 1) := by decide +kernel
theorem dX6_renderLevels_10 : decode cX6_renderLevels 10 = .ok (.iload_n 1, 1) := by decide +kernel
theorem dX6_renderLevels_11 : decode cX6_renderLevels 11 = .ok (.iconst 5, 1) := by decide +kernel
theorem dX6_renderLevels_12 : decode cX6_renderLevels 12 = .ok (.if_icmp .ge 64, 3) := by decide +kernel
theorem dX6_renderLevels_15 : decode cX6_renderLevels 15 = .ok (.iload_n 1, 1) := by decide +kernel
theorem dX6_renderLevels_16 : decode cX6_renderLevels 16 = .ok (.ifCond .le 35, 3) := by decide +kernel
theorem dX6_renderLevels_19 : decode cX6_renderLevels 19 = .ok (.aload_n 0, 1) := by decide +kernel
theorem dX6_renderLevels_20 : decode cX6_renderLevels 20 = .ok (.getfield 43, 3) := by decide +kernel
theorem dX6_renderLevels_23 : decode cX6_renderLevels 23 = .ok (.aload_n 0, 1) := by decide +kernel
theorem dX6_renderLevels_24 : decode cX6_renderLevels 24 = .ok (.getfield 12, 3) := by decide +kernel
theorem dX6_renderLevels_27 : decode cX6_renderLevels 27 = .ok (.getfield 70, 3) := by decide +kernel
theorem dX6_renderLevels_30 : decode cX6_renderLevels 30 = .ok (.getfield 99, 3) := by decide +kernel
theorem dX6_renderLevels_33 : decode cX6_renderLevels 33 = .ok (.iload_n 1, 1) := by decide +kernel
theorem dX6_renderLevels_34 : decode cX6_renderLevels 34 = .ok (.iconst 1, 1) := by decide +kernel
theorem dX6_renderLevels_35 : decode cX6_renderLevels 35 = .ok (.isub, 1) := by decide +kernel
theorem dX6_renderLevels_36 : decode cX6_renderLevels 36 = .ok (.baload, 1) := by decide +kernel
theorem dX6_renderLevels_37 : decode cX6_renderLevels 37 = .ok (.ifCond .eq 8, 3) := by decide +kernel
theorem dX6_renderLevels_40 : decode cX6_renderLevels 40 = .ok (.bipush 47, 2) := by decide +kernel
theorem dX6_renderLevels_42 : decode cX6_renderLevels 42 = .ok (.goto 5, 3) := by decide +kernel
theorem dX6_renderLevels_45 : decode cX6_renderLevels 45 = .ok (.bipush 124, 2) := by decide +kernel
theorem dX6_renderLevels_47 : decode cX6_renderLevels 47 = .ok (.invokevirtual 241, 3) := by decide +kernel
theorem dX6_renderLevels_50 : decode cX6_renderLevels 50 = .ok (.pop, 1) := by decide +kernel
theorem dX6_renderLevels_51 : decode cX6_renderLevels 51 = .ok (.aload_n 0, 1) := by decide +kernel
theorem dX6_renderLevels_52 : decode cX6_renderLevels 52 = .ok (.getfield 43, 3) := by decide +kernel
theorem dX6_renderLevels_55 : decode cX6_renderLevels 55 = .ok (.aload_n 0, 1) := by decide +kernel
theorem dX6_renderLevels_56 : decode cX6_renderLevels 56 = .ok (.getfield 12, 3) := by decide +kernel
theorem dX6_renderLevels_59 : decode cX6_renderLevels 59 = .ok (.getfield 70, 3) := by decide +kernel
theorem dX6_renderLevels_62 : decode cX6_renderLevels 62 = .ok (.iload_n 1, 1) := by decide +kernel
theorem dX6_renderLevels_63 : decode cX6_renderLevels 63 = .ok (.invokevirtual 80, 3) := by decide +kernel
theorem dX6_renderLevels_66 : decode cX6_renderLevels 66 = .ok (.invokevirtual 245, 3) := by decide +kernel
theorem dX6_renderLevels_69 : decode cX6_renderLevels 69 = .ok (.pop, 1) := by decide +kernel
theorem dX6_renderLevels_70 : decode cX6_renderLevels 70 = .ok (.iinc 1 1, 3) := by decide +kernel
theorem dX6_renderLevels_73 : decode cX6_renderLevels 73 = .ok (.goto (-63), 3) := by decide +kernel
theorem dX6_renderLevels_76 : decode cX6_renderLevels 76 = .ok (.aload_n 0, 1) := by decide +kernel
theorem dX6_renderLevels_77 : decode cX6_renderLevels 77 = .ok (.getfield 43, 3) := by decide +kernel
theorem dX6_renderLevels_80 : decode cX6_renderLevels 80 = .ok (.invokevirtual 248, 3) := by decide +kernel
theorem dX6_renderLevels_83 : decode cX6_renderLevels 83 = .ok (.ireturn, 1) := by decide +kernel
theorem dX6_renderBoat_0 : decode cX6_renderBoat 0 = .ok (.aload_n 0, 1) := by decide +kernel
theorem dX6_renderBoat_1 : decode cX6_renderBoat 1 = .ok (.iload_n 1, 1) := by decide +kernel
theorem dX6_renderBoat_2 : decode cX6_renderBoat 2 = .ok (.invokevirtual 147, 3) := by decide +kernel
theorem dX6_renderBoat_5 : decode cX6_renderBoat 5 = .ok (.aload_n 0, 1) := by decide +kernel
theorem dX6_renderBoat_6 : decode cX6_renderBoat 6 = .ok (.getfield 43, 3) := by decide +kernel
theorem dX6_renderBoat_9 : decode cX6_renderBoat 9 = .ok (.iconst 0, 1) := by decide +kernel
theorem dX6_renderBoat_10 : decode cX6_renderBoat 10 = .ok (.invokevirtual 238, 3) := by decide +kernel
theorem dX6_renderBoat_13 : decode cX6_renderBoat 13 = .ok (.aload_n 0, 1) := by decide +kernel
theorem dX6_renderBoat_14 : decode cX6_renderBoat 14 = .ok (.getfield 43, 3) := by decide +kernel
theorem dX6_renderBoat_17 : decode cX6_renderBoat 17 = .ok (.aload_n 0, 1) := by decide +kernel
theorem dX6_renderBoat_18 : decode cX6_renderBoat 18 = .ok (.getfield 12, 3) := by decide +kernel
theorem dX6_renderBoat_21 : decode cX6_renderBoat 21 = .ok (.getfield 138, 3) := by decide +kernel
theorem dX6_renderBoat_24 : decode cX6_renderBoat 24 = .ok (.iload_n 1, 1) := by decide +kernel
theorem dX6_renderBoat_25 : decode cX6_renderBoat 25 = .ok (.invokevirtual 150, 3) := by decide +kernel
theorem dX6_renderBoat_28 : decode cX6_renderBoat 28 = .ok (.invokevirtual 241, 3) := by decide +kernel
theorem dX6_renderBoat_31 : decode cX6_renderBoat 31 = .ok (.pop, 1) := by decide +kernel
theorem dX6_renderBoat_32 : decode cX6_renderBoat 32 = .ok (.aload_n 0, 1) := by decide +kernel
theorem dX6_renderBoat_33 : decode cX6_renderBoat 33 = .ok (.getfield 43, 3) := by decide +kernel
theorem dX6_renderBoat_36 : decode cX6_renderBoat 36 = .ok (.aload_n 0, 1) := by decide +kernel
theorem dX6_renderBoat_37 : decode cX6_renderBoat 37 = .ok (.getfield 12, 3) := by decide +kernel
theorem dX6_renderBoat_40 : decode cX6_renderBoat 40 = .ok (.getfield 138, 3) := by decide +kernel
theorem dX6_renderBoat_43 : decode cX6_renderBoat 43 = .ok (.getfield 154, 3) := by decide +kernel
theorem dX6_renderBoat_46 : decode cX6_renderBoat 46 = .ok (.iload_n 1, 1) := by decide +kernel
theorem dX6_renderBoat_47 : decode cX6_renderBoat 47 = .ok (.iaload, 1) := by decide +kernel
theorem dX6_renderBoat_48 : decode cX6_renderBoat 48 = .ok (.invokevirtual 245, 3) := by decide +kernel
theorem dX6_renderBoat_51 : decode cX6_renderBoat 51 = .ok (.pop, 1) := by decide +kernel
theorem dX6_renderBoat_52 : decode cX6_renderBoat 52 = .ok (.aload_n 0, 1) := by decide +kernel
theorem dX6_renderBoat_53 : decode cX6_renderBoat 53 = .ok (.getfield 43, 3) := by decide +kernel
theorem dX6_renderBoat_56 : decode cX6_renderBoat 56 = .ok (.aload_n 0, 1) := by decide +kernel
theorem dX6_renderBoat_57 : decode cX6_renderBoat 57 = .ok (.getfield 12, 3) := by decide +kernel
theorem dX6_renderBoat_60 : decode cX6_renderBoat 60 = .ok (.getfield 138, 3) := by decide +kernel
theorem dX6_renderBoat_63 : decode cX6_renderBoat 63 = .ok (.getfield 157, 3) := by decide +kernel
theorem dX6_renderBoat_66 : decode cX6_renderBoat 66 = .ok (.iload_n 1, 1) := by decide +kernel
theorem dX6_renderBoat_67 : decode cX6_renderBoat 67 = .ok (.baload, 1) := by decide +kernel
theorem dX6_renderBoat_68 : decode cX6_renderBoat 68 = .ok (.ifCond .eq 8, 3) := by decide +kernel
theorem dX6_renderBoat_71 : decode cX6_renderBoat 71 = .ok (.bipush 118, 2) := by decide +kernel
theorem dX6_renderBoat_73 : decode cX6_renderBoat 73 = .ok (.goto 5, 3) := by decide +kernel
theorem dX6_renderBoat_76 : decode cX6_renderBoat 76 = .ok (.bipush 94, 2) := by decide +kernel
theorem dX6_renderBoat_78 : decode cX6_renderBoat 78 = .ok (.invokevirtual 241, 3) := by decide +kernel
theorem dX6_renderBoat_81 : decode cX6_renderBoat 81 = .ok (.pop, 1) := by decide +kernel
theorem dX6_renderBoat_82 : decode cX6_renderBoat 82 = .ok (.aload_n 0, 1) := by decide +kernel
theorem dX6_renderBoat_83 : decode cX6_renderBoat 83 = .ok (.getfield 43, 3) := by decide +kernel
theorem dX6_renderBoat_86 : decode cX6_renderBoat 86 = .ok (.aload_n 0, 1) := by decide +kernel
theorem dX6_renderBoat_87 : decode cX6_renderBoat 87 = .ok (.getfield 12, 3) := by decide +kernel
theorem dX6_renderBoat_90 : decode cX6_renderBoat 90 = .ok (.getfield 138, 3) := by decide +kernel
theorem dX6_renderBoat_93 : decode cX6_renderBoat 93 = .ok (.getfield 160, 3) := by decide +kernel
theorem dX6_renderBoat_96 : decode cX6_renderBoat 96 = .ok (.iload_n 1, 1) := by decide +kernel
theorem dX6_renderBoat_97 : decode cX6_renderBoat 97 = .ok (.iaload, 1) := by decide +kernel
theorem dX6_renderBoat_98 : decode cX6_renderBoat 98 = .ok (.invokevirtual 245, 3) := by decide +kernel
theorem dX6_renderBoat_101 : decode cX6_renderBoat 101 = .ok (.pop, 1) := by decide +kernel
theorem dX6_renderBoat_102 : decode cX6_renderBoat 102 = .ok (.aload_n 0, 1) := by decide +kernel
theorem dX6_renderBoat_103 : decode cX6_renderBoat 103 = .ok (.getfield 43, 3) := by decide +kernel
theorem dX6_renderBoat_106 : decode cX6_renderBoat 106 = .ok (.invokevirtual 248, 3) := by decide +kernel
theorem dX6_renderBoat_109 : decode cX6_renderBoat 109 = .ok (.ireturn, 1) := by decide +kernel
theorem dX6_outputAt_0 : decode cX6_outputAt 0 = .ok (.iload_n 1, 1) := by decide +kernel
theorem dX6_outputAt_1 : decode cX6_outputAt 1 = .ok (.ifCond .lt 14, 3) := by decide +kernel
theorem dX6_outputAt_4 : decode cX6_outputAt 4 = .ok (.iload_n 1, 1) := by decide +kernel
theorem dX6_outputAt_5 : decode cX6_outputAt 5 = .ok (.aload_n 0, 1) := by decide +kernel
theorem dX6_outputAt_6 : decode cX6_outputAt 6 = .ok (.getfield 43, 3) := by decide +kernel
theorem dX6_outputAt_9 : decode cX6_outputAt 9 = .ok (.invokevirtual 248, 3) := by decide +kernel
theorem dX6_outputAt_12 : decode cX6_outputAt 12 = .ok (.if_icmp .lt 13, 3) := by decide +kernel
theorem dX6_outputAt_15 : decode cX6_outputAt 15 = .ok (.new 251, 3) := by decide +kernel
theorem dX6_outputAt_18 : decode cX6_outputAt 18 = .ok (.dup, 1) := by decide +kernel
theorem dX6_outputAt_19 : decode cX6_outputAt 19 = .ok (.ldc 253, 2) := by decide +kernel
theorem dX6_outputAt_21 : decode cX6_outputAt 21 = .ok (.invokespecial 255, 3) := by decide +kernel
theorem dX6_outputAt_24 : decode cX6_outputAt 24 = .ok (.athrow, 1) := by decide +kernel
theorem dX6_outputAt_25 : decode cX6_outputAt 25 = .ok (.aload_n 0, 1) := by decide +kernel
theorem dX6_outputAt_26 : decode cX6_outputAt 26 = .ok (.getfield 43, 3) := by decide +kernel
theorem dX6_outputAt_29 : decode cX6_outputAt 29 = .ok (.iload_n 1, 1) := by decide +kernel
theorem dX6_outputAt_30 : decode cX6_outputAt 30 = .ok (.invokevirtual 256, 3) := by decide +kernel
theorem dX6_outputAt_33 : decode cX6_outputAt 33 = .ok (.ireturn, 1) := by decide +kernel
theorem dX6_type_0 : decode cX6_type 0 = .ok (.iload_n 1, 1) := by decide +kernel
theorem dX6_type_1 : decode cX6_type 1 = .ok (.bipush 32, 2) := by decide +kernel
theorem dX6_type_3 : decode cX6_type 3 = .ok (.if_icmp .lt 9, 3) := by decide +kernel
theorem dX6_type_6 : decode cX6_type 6 = .ok (.iload_n 1, 1) := by decide +kernel
theorem dX6_type_7 : decode cX6_type 7 = .ok (.bipush 126, 2) := by decide +kernel
theorem dX6_type_9 : decode cX6_type 9 = .ok (.if_icmp .le 14, 3) := by decide +kernel
theorem dX6_type_12 : decode cX6_type 12 = .ok (.new 176, 3) := by decide +kernel
theorem dX6_type_15 : decode cX6_type 15 = .ok (.dup, 1) := by decide +kernel
theorem dX6_type_16 : decode cX6_type 16 = .ok (.ldc_w 259, 3) := by decide +kernel
theorem dX6_type_19 : decode cX6_type 19 = .ok (.invokespecial 180, 3) := by decide +kernel
theorem dX6_type_22 : decode cX6_type 22 = .ok (.athrow, 1) := by decide +kernel
theorem dX6_type_23 : decode cX6_type 23 = .ok (.aload_n 0, 1) := by decide +kernel
theorem dX6_type_24 : decode cX6_type 24 = .ok (.getfield 36, 3) := by decide +kernel
theorem dX6_type_27 : decode cX6_type 27 = .ok (.getfield 261, 3) := by decide +kernel
theorem dX6_type_30 : decode cX6_type 30 = .ok (.bipush 60, 2) := by decide +kernel
theorem dX6_type_32 : decode cX6_type 32 = .ok (.if_icmp .lt 14, 3) := by decide +kernel
theorem dX6_type_35 : decode cX6_type 35 = .ok (.new 263, 3) := by decide +kernel
theorem dX6_type_38 : decode cX6_type 38 = .ok (.dup, 1) := by decide +kernel
theorem dX6_type_39 : decode cX6_type 39 = .ok (.ldc_w 265, 3) := by decide +kernel
theorem dX6_type_42 : decode cX6_type 42 = .ok (.invokespecial 267, 3) := by decide +kernel
theorem dX6_type_45 : decode cX6_type 45 = .ok (.athrow, 1) := by decide +kernel
theorem dX6_type_46 : decode cX6_type 46 = .ok (.aload_n 0, 1) := by decide +kernel
theorem dX6_type_47 : decode cX6_type 47 = .ok (.getfield 36, 3) := by decide +kernel
theorem dX6_type_50 : decode cX6_type 50 = .ok (.getfield 268, 3) := by decide +kernel
theorem dX6_type_53 : decode cX6_type 53 = .ok (.aload_n 0, 1) := by decide +kernel
theorem dX6_type_54 : decode cX6_type 54 = .ok (.getfield 36, 3) := by decide +kernel
theorem dX6_type_57 : decode cX6_type 57 = .ok (.getfield 261, 3) := by decide +kernel
theorem dX6_type_60 : decode cX6_type 60 = .ok (.iload_n 1, 1) := by decide +kernel
theorem dX6_type_61 : decode cX6_type 61 = .ok (.castore, 1) := by decide +kernel
theorem dX6_type_62 : decode cX6_type 62 = .ok (.aload_n 0, 1) := by decide +kernel
theorem dX6_type_63 : decode cX6_type 63 = .ok (.getfield 36, 3) := by decide +kernel
theorem dX6_type_66 : decode cX6_type 66 = .ok (.dup, 1) := by decide +kernel
theorem dX6_type_67 : decode cX6_type 67 = .ok (.getfield 261, 3) := by decide +kernel
theorem dX6_type_70 : decode cX6_type 70 = .ok (.iconst 1, 1) := by decide +kernel
theorem dX6_type_71 : decode cX6_type 71 = .ok (.iadd, 1) := by decide +kernel
theorem dX6_type_72 : decode cX6_type 72 = .ok (.putfield 261, 3) := by decide +kernel
theorem dX6_type_75 : decode cX6_type 75 = .ok (.aload_n 0, 1) := by decide +kernel
theorem dX6_type_76 : decode cX6_type 76 = .ok (.getfield 36, 3) := by decide +kernel
theorem dX6_type_79 : decode cX6_type 79 = .ok (.getfield 261, 3) := by decide +kernel
theorem dX6_type_82 : decode cX6_type 82 = .ok (.ireturn, 1) := by decide +kernel
theorem dX6_runScript_0 : decode cX6_runScript 0 = .ok (.aload_n 0, 1) := by decide +kernel
theorem dX6_runScript_1 : decode cX6_runScript 1 = .ok (.getfield 36, 3) := by decide +kernel
theorem dX6_runScript_4 : decode cX6_runScript 4 = .ok (.invokevirtual 271, 3) := by decide +kernel
theorem dX6_runScript_7 : decode cX6_runScript 7 = .ok (.istore_n 1, 1) := by decide +kernel
theorem dX6_runScript_8 : decode cX6_runScript 8 = .ok (.aload_n 0, 1) := by decide +kernel
theorem dX6_runScript_9 : decode cX6_runScript 9 = .ok (.getfield 36, 3) := by decide +kernel
theorem dX6_runScript_12 : decode cX6_runScript 12 = .ok (.iconst 0, 1) := by decide +kernel
theorem dX6_runScript_13 : decode cX6_runScript 13 = .ok (.putfield 261, 3) := by decide +kernel
theorem dX6_runScript_16 : decode cX6_runScript 16 = .ok (.iload_n 1, 1) := by decide +kernel
theorem dX6_runScript_17 : decode cX6_runScript 17 = .ok (.ifCond .ne 25, 3) := by decide +kernel
theorem dX6_runScript_20 : decode cX6_runScript 20 = .ok (.aload_n 0, 1) := by decide +kernel
theorem dX6_runScript_21 : decode cX6_runScript 21 = .ok (.aload_n 0, 1) := by decide +kernel
theorem dX6_runScript_22 : decode cX6_runScript 22 = .ok (.getfield 36, 3) := by decide +kernel
theorem dX6_runScript_25 : decode cX6_runScript 25 = .ok (.getfield 274, 3) := by decide +kernel
theorem dX6_runScript_28 : decode cX6_runScript 28 = .ok (.putfield 47, 3) := by decide +kernel
theorem dX6_runScript_31 : decode cX6_runScript 31 = .ok (.new 176, 3) := by decide +kernel
theorem dX6_runScript_34 : decode cX6_runScript 34 = .ok (.dup, 1) := by decide +kernel
theorem dX6_runScript_35 : decode cX6_runScript 35 = .ok (.ldc_w 277, 3) := by decide +kernel
theorem dX6_runScript_38 : decode cX6_runScript 38 = .ok (.invokespecial 180, 3) := by decide +kernel
theorem dX6_runScript_41 : decode cX6_runScript 41 = .ok (.athrow, 1) := by decide +kernel
theorem dX6_runScript_42 : decode cX6_runScript 42 = .ok (.aload_n 0, 1) := by decide +kernel
theorem dX6_runScript_43 : decode cX6_runScript 43 = .ok (.getfield 16, 3) := by decide +kernel
theorem dX6_runScript_46 : decode cX6_runScript 46 = .ok (.aload_n 0, 1) := by decide +kernel
theorem dX6_runScript_47 : decode cX6_runScript 47 = .ok (.getfield 12, 3) := by decide +kernel
theorem dX6_runScript_50 : decode cX6_runScript 50 = .ok (.invokevirtual 187, 3) := by decide +kernel
theorem dX6_runScript_53 : decode cX6_runScript 53 = .ok (.iconst 0, 1) := by decide +kernel
theorem dX6_runScript_54 : decode cX6_runScript 54 = .ok (.istore_n 2, 1) := by decide +kernel
theorem dX6_runScript_55 : decode cX6_runScript 55 = .ok (.iload_n 2, 1) := by decide +kernel
theorem dX6_runScript_56 : decode cX6_runScript 56 = .ok (.aload_n 0, 1) := by decide +kernel
theorem dX6_runScript_57 : decode cX6_runScript 57 = .ok (.getfield 36, 3) := by decide +kernel
theorem dX6_runScript_60 : decode cX6_runScript 60 = .ok (.getfield 279, 3) := by decide +kernel
theorem dX6_runScript_63 : decode cX6_runScript 63 = .ok (.if_icmp .ge 94, 3) := by decide +kernel
theorem dX6_runScript_66 : decode cX6_runScript 66 = .ok (.aload_n 0, 1) := by decide +kernel
theorem dX6_runScript_67 : decode cX6_runScript 67 = .ok (.getfield 36, 3) := by decide +kernel
theorem dX6_runScript_70 : decode cX6_runScript 70 = .ok (.getfield 280, 3) := by decide +kernel
theorem dX6_runScript_73 : decode cX6_runScript 73 = .ok (.iload_n 2, 1) := by decide +kernel
theorem dX6_runScript_74 : decode cX6_runScript 74 = .ok (.iaload, 1) := by decide +kernel
theorem dX6_runScript_75 : decode cX6_runScript 75 = .ok (.istore_n 3, 1) := by decide +kernel
theorem dX6_runScript_76 : decode cX6_runScript 76 = .ok (.aload_n 0, 1) := by decide +kernel
theorem dX6_runScript_77 : decode cX6_runScript 77 = .ok (.getfield 36, 3) := by decide +kernel
theorem dX6_runScript_80 : decode cX6_runScript 80 = .ok (.getfield 282, 3) := by decide +kernel
theorem dX6_runScript_83 : decode cX6_runScript 83 = .ok (.iload_n 2, 1) := by decide +kernel
theorem dX6_runScript_84 : decode cX6_runScript 84 = .ok (.iaload, 1) := by decide +kernel
theorem dX6_runScript_85 : decode cX6_runScript 85 = .ok (.istore 4, 2) := by decide +kernel
theorem dX6_runScript_87 : decode cX6_runScript 87 = .ok (.aload_n 0, 1) := by decide +kernel
theorem dX6_runScript_88 : decode cX6_runScript 88 = .ok (.getfield 36, 3) := by decide +kernel
theorem dX6_runScript_91 : decode cX6_runScript 91 = .ok (.getfield 285, 3) := by decide +kernel
theorem dX6_runScript_94 : decode cX6_runScript 94 = .ok (.iload_n 2, 1) := by decide +kernel
theorem dX6_runScript_95 : decode cX6_runScript 95 = .ok (.iaload, 1) := by decide +kernel
theorem dX6_runScript_96 : decode cX6_runScript 96 = .ok (.istore 5, 2) := by decide +kernel
theorem dX6_runScript_98 : decode cX6_runScript 98 = .ok (.aload_n 0, 1) := by decide +kernel
theorem dX6_runScript_99 : decode cX6_runScript 99 = .ok (.getfield 16, 3) := by decide +kernel
theorem dX6_runScript_102 : decode cX6_runScript 102 = .ok (.iload_n 3, 1) := by decide +kernel
theorem dX6_runScript_103 : decode cX6_runScript 103 = .ok (.iload 4, 2) := by decide +kernel
theorem dX6_runScript_105 : decode cX6_runScript 105 = .ok (.iload 5, 2) := by decide +kernel
theorem dX6_runScript_107 : decode cX6_runScript 107 = .ok (.invokevirtual 288, 3) := by decide +kernel
theorem dX6_runScript_110 : decode cX6_runScript 110 = .ok (.ifCond .eq 19, 3) := by decide +kernel
theorem dX6_runScript_113 : decode cX6_runScript 113 = .ok (.aload_n 0, 1) := by decide +kernel
theorem dX6_runScript_114 : decode cX6_runScript 114 = .ok (.iload_n 2, 1) := by decide +kernel
theorem dX6_runScript_115 : decode cX6_runScript 115 = .ok (.putfield 51, 3) := by decide +kernel
theorem dX6_runScript_118 : decode cX6_runScript 118 = .ok (.new 263, 3) := by decide +kernel
theorem dX6_runScript_121 : decode cX6_runScript 121 = .ok (.dup, 1) := by decide +kernel
theorem dX6_runScript_122 : decode cX6_runScript 122 = .ok (.ldc_w 292, 3) := by decide +kernel
theorem dX6_runScript_125 : decode cX6_runScript 125 = .ok (.invokespecial 267, 3) := by decide +kernel
theorem dX6_runScript_128 : decode cX6_runScript 128 = .ok (.athrow, 1) := by decide +kernel
theorem dX6_runScript_129 : decode cX6_runScript 129 = .ok (.aload_n 0, 1) := by decide +kernel
theorem dX6_runScript_130 : decode cX6_runScript 130 = .ok (.getfield 16, 3) := by decide +kernel
theorem dX6_runScript_133 : decode cX6_runScript 133 = .ok (.iload_n 3, 1) := by decide +kernel
theorem dX6_runScript_134 : decode cX6_runScript 134 = .ok (.iload 4, 2) := by decide +kernel
theorem dX6_runScript_136 : decode cX6_runScript 136 = .ok (.iload 5, 2) := by decide +kernel
theorem dX6_runScript_138 : decode cX6_runScript 138 = .ok (.aload_n 0, 1) := by decide +kernel
theorem dX6_runScript_139 : decode cX6_runScript 139 = .ok (.getfield 36, 3) := by decide +kernel
theorem dX6_runScript_142 : decode cX6_runScript 142 = .ok (.getfield 294, 3) := by decide +kernel
theorem dX6_runScript_145 : decode cX6_runScript 145 = .ok (.iload_n 2, 1) := by decide +kernel
theorem dX6_runScript_146 : decode cX6_runScript 146 = .ok (.iaload, 1) := by decide +kernel
theorem dX6_runScript_147 : decode cX6_runScript 147 = .ok (.invokevirtual 58, 3) := by decide +kernel
theorem dX6_runScript_150 : decode cX6_runScript 150 = .ok (.pop, 1) := by decide +kernel
theorem dX6_runScript_151 : decode cX6_runScript 151 = .ok (.iinc 2 1, 3) := by decide +kernel
theorem dX6_runScript_154 : decode cX6_runScript 154 = .ok (.goto (-99), 3) := by decide +kernel
theorem dX6_runScript_157 : decode cX6_runScript 157 = .ok (.aload_n 0, 1) := by decide +kernel
theorem dX6_runScript_158 : decode cX6_runScript 158 = .ok (.getfield 29, 3) := by decide +kernel
theorem dX6_runScript_161 : decode cX6_runScript 161 = .ok (.aload_n 0, 1) := by decide +kernel
theorem dX6_runScript_162 : decode cX6_runScript 162 = .ok (.getfield 12, 3) := by decide +kernel
theorem dX6_runScript_165 : decode cX6_runScript 165 = .ok (.invokevirtual 297, 3) := by decide +kernel
theorem dX6_runScript_168 : decode cX6_runScript 168 = .ok (.aload_n 0, 1) := by decide +kernel
theorem dX6_runScript_169 : decode cX6_runScript 169 = .ok (.getfield 12, 3) := by decide +kernel
theorem dX6_runScript_172 : decode cX6_runScript 172 = .ok (.aload_n 0, 1) := by decide +kernel
theorem dX6_runScript_173 : decode cX6_runScript 173 = .ok (.getfield 16, 3) := by decide +kernel
theorem dX6_runScript_176 : decode cX6_runScript 176 = .ok (.invokevirtual 187, 3) := by decide +kernel
theorem dX6_runScript_179 : decode cX6_runScript 179 = .ok (.aload_n 0, 1) := by decide +kernel
theorem dX6_runScript_180 : decode cX6_runScript 180 = .ok (.getfield 36, 3) := by decide +kernel
theorem dX6_runScript_183 : decode cX6_runScript 183 = .ok (.getfield 279, 3) := by decide +kernel
theorem dX6_runScript_186 : decode cX6_runScript 186 = .ok (.ireturn, 1) := by decide +kernel
theorem dX6_errorPosition_0 : decode cX6_errorPosition 0 = .ok (.aload_n 0, 1) := by decide +kernel
theorem dX6_errorPosition_1 : decode cX6_errorPosition 1 = .ok (.getfield 47, 3) := by decide +kernel
theorem dX6_errorPosition_4 : decode cX6_errorPosition 4 = .ok (.iconst (-1), 1) := by decide +kernel
theorem dX6_errorPosition_5 : decode cX6_errorPosition 5 = .ok (.if_icmp .ne 14, 3) := by decide +kernel
theorem dX6_errorPosition_8 : decode cX6_errorPosition 8 = .ok (.new 131, 3) := by decide +kernel
theorem dX6_errorPosition_11 : decode cX6_errorPosition 11 = .ok (.dup, 1) := by decide +kernel
theorem dX6_errorPosition_12 : decode cX6_errorPosition 12 = .ok (.ldc_w 300, 3) := by decide +kernel
theorem dX6_errorPosition_15 : decode cX6_errorPosition 15 = .ok (.invokespecial 135, 3) := by decide +kernel
theorem dX6_errorPosition_18 : decode cX6_errorPosition 18 = .ok (.athrow, 1) := by decide +kernel
theorem dX6_errorPosition_19 : decode cX6_errorPosition 19 = .ok (.aload_n 0, 1) := by decide +kernel
theorem dX6_errorPosition_20 : decode cX6_errorPosition 20 = .ok (.getfield 47, 3) := by decide +kernel
theorem dX6_errorPosition_23 : decode cX6_errorPosition 23 = .ok (.ireturn, 1) := by decide +kernel
theorem dX6_failedCommand_0 : decode cX6_failedCommand 0 = .ok (.aload_n 0, 1) := by decide +kernel
theorem dX6_failedCommand_1 : decode cX6_failedCommand 1 = .ok (.getfield 51, 3) := by decide +kernel
theorem dX6_failedCommand_4 : decode cX6_failedCommand 4 = .ok (.iconst (-1), 1) := by decide +kernel
theorem dX6_failedCommand_5 : decode cX6_failedCommand 5 = .ok (.if_icmp .ne 14, 3) := by decide +kernel
theorem dX6_failedCommand_8 : decode cX6_failedCommand 8 = .ok (.new 131, 3) := by decide +kernel
theorem dX6_failedCommand_11 : decode cX6_failedCommand 11 = .ok (.dup, 1) := by decide +kernel
theorem dX6_failedCommand_12 : decode cX6_failedCommand 12 = .ok (.ldc_w 302, 3) := by decide +kernel
theorem dX6_failedCommand_15 : decode cX6_failedCommand 15 = .ok (.invokespecial 135, 3) := by decide +kernel
theorem dX6_failedCommand_18 : decode cX6_failedCommand 18 = .ok (.athrow, 1) := by decide +kernel
theorem dX6_failedCommand_19 : decode cX6_failedCommand 19 = .ok (.aload_n 0, 1) := by decide +kernel
theorem dX6_failedCommand_20 : decode cX6_failedCommand 20 = .ok (.getfield 51, 3) := by decide +kernel
theorem dX6_failedCommand_23 : decode cX6_failedCommand 23 = .ok (.ireturn, 1) := by decide +kernel
theorem dX6_undo_0 : decode cX6_undo 0 = .ok (.aload_n 0, 1) := by decide +kernel
theorem dX6_undo_1 : decode cX6_undo 1 = .ok (.getfield 29, 3) := by decide +kernel
theorem dX6_undo_4 : decode cX6_undo 4 = .ok (.getfield 304, 3) := by decide +kernel
theorem dX6_undo_7 : decode cX6_undo 7 = .ok (.ifCond .ne 14, 3) := by decide +kernel
theorem dX6_undo_10 : decode cX6_undo 10 = .ok (.new 131, 3) := by decide +kernel
theorem dX6_undo_13 : decode cX6_undo 13 = .ok (.dup, 1) := by decide +kernel
theorem dX6_undo_14 : decode cX6_undo 14 = .ok (.ldc_w 305, 3) := by decide +kernel
theorem dX6_undo_17 : decode cX6_undo 17 = .ok (.invokespecial 135, 3) := by decide +kernel
theorem dX6_undo_20 : decode cX6_undo 20 = .ok (.athrow, 1) := by decide +kernel
theorem dX6_undo_21 : decode cX6_undo 21 = .ok (.aload_n 0, 1) := by decide +kernel
theorem dX6_undo_22 : decode cX6_undo 22 = .ok (.getfield 29, 3) := by decide +kernel
theorem dX6_undo_25 : decode cX6_undo 25 = .ok (.aload_n 0, 1) := by decide +kernel
theorem dX6_undo_26 : decode cX6_undo 26 = .ok (.getfield 12, 3) := by decide +kernel
theorem dX6_undo_29 : decode cX6_undo 29 = .ok (.invokevirtual 307, 3) := by decide +kernel
theorem dX6_undo_32 : decode cX6_undo 32 = .ok (.aload_n 0, 1) := by decide +kernel
theorem dX6_undo_33 : decode cX6_undo 33 = .ok (.getfield 29, 3) := by decide +kernel
theorem dX6_undo_36 : decode cX6_undo 36 = .ok (.getfield 304, 3) := by decide +kernel
theorem dX6_undo_39 : decode cX6_undo 39 = .ok (.ireturn, 1) := by decide +kernel
theorem dX6_save_0 : decode cX6_save 0 = .ok (.aload_n 0, 1) := by decide +kernel
theorem dX6_save_1 : decode cX6_save 1 = .ok (.getfield 19, 3) := by decide +kernel
theorem dX6_save_4 : decode cX6_save 4 = .ok (.aload_n 0, 1) := by decide +kernel
theorem dX6_save_5 : decode cX6_save 5 = .ok (.getfield 12, 3) := by decide +kernel
theorem dX6_save_8 : decode cX6_save 8 = .ok (.invokevirtual 187, 3) := by decide +kernel
theorem dX6_save_11 : decode cX6_save 11 = .ok (.aload_n 0, 1) := by decide +kernel
theorem dX6_save_12 : decode cX6_save 12 = .ok (.iconst 1, 1) := by decide +kernel
theorem dX6_save_13 : decode cX6_save 13 = .ok (.putfield 22, 3) := by decide +kernel
theorem dX6_save_16 : decode cX6_save 16 = .ok (.aload_n 0, 1) := by decide +kernel
theorem dX6_save_17 : decode cX6_save 17 = .ok (.getfield 12, 3) := by decide +kernel
theorem dX6_save_20 : decode cX6_save 20 = .ok (.getfield 138, 3) := by decide +kernel
theorem dX6_save_23 : decode cX6_save 23 = .ok (.getfield 142, 3) := by decide +kernel
theorem dX6_save_26 : decode cX6_save 26 = .ok (.ireturn, 1) := by decide +kernel
theorem dX6_restore_0 : decode cX6_restore 0 = .ok (.aload_n 0, 1) := by decide +kernel
theorem dX6_restore_1 : decode cX6_restore 1 = .ok (.getfield 22, 3) := by decide +kernel
theorem dX6_restore_4 : decode cX6_restore 4 = .ok (.ifCond .ne 14, 3) := by decide +kernel
theorem dX6_restore_7 : decode cX6_restore 7 = .ok (.new 263, 3) := by decide +kernel
theorem dX6_restore_10 : decode cX6_restore 10 = .ok (.dup, 1) := by decide +kernel
theorem dX6_restore_11 : decode cX6_restore 11 = .ok (.ldc_w 310, 3) := by decide +kernel
theorem dX6_restore_14 : decode cX6_restore 14 = .ok (.invokespecial 267, 3) := by decide +kernel
theorem dX6_restore_17 : decode cX6_restore 17 = .ok (.athrow, 1) := by decide +kernel
theorem dX6_restore_18 : decode cX6_restore 18 = .ok (.aload_n 0, 1) := by decide +kernel
theorem dX6_restore_19 : decode cX6_restore 19 = .ok (.getfield 12, 3) := by decide +kernel
theorem dX6_restore_22 : decode cX6_restore 22 = .ok (.aload_n 0, 1) := by decide +kernel
theorem dX6_restore_23 : decode cX6_restore 23 = .ok (.getfield 19, 3) := by decide +kernel
theorem dX6_restore_26 : decode cX6_restore 26 = .ok (.invokevirtual 187, 3) := by decide +kernel
theorem dX6_restore_29 : decode cX6_restore 29 = .ok (.aload_n 0, 1) := by decide +kernel
theorem dX6_restore_30 : decode cX6_restore 30 = .ok (.getfield 29, 3) := by decide +kernel
theorem dX6_restore_33 : decode cX6_restore 33 = .ok (.iconst 0, 1) := by decide +kernel
theorem dX6_restore_34 : decode cX6_restore 34 = .ok (.putfield 304, 3) := by decide +kernel
theorem dX6_restore_37 : decode cX6_restore 37 = .ok (.aload_n 0, 1) := by decide +kernel
theorem dX6_restore_38 : decode cX6_restore 38 = .ok (.getfield 12, 3) := by decide +kernel
theorem dX6_restore_41 : decode cX6_restore 41 = .ok (.getfield 138, 3) := by decide +kernel
theorem dX6_restore_44 : decode cX6_restore 44 = .ok (.getfield 142, 3) := by decide +kernel
theorem dX6_restore_47 : decode cX6_restore 47 = .ok (.ireturn, 1) := by decide +kernel
theorem dX6_beginChange_0 : decode cX6_beginChange 0 = .ok (.aload_n 0, 1) := by decide +kernel
theorem dX6_beginChange_1 : decode cX6_beginChange 1 = .ok (.getfield 12, 3) := by decide +kernel
theorem dX6_beginChange_4 : decode cX6_beginChange 4 = .ok (.iload_n 1, 1) := by decide +kernel
theorem dX6_beginChange_5 : decode cX6_beginChange 5 = .ok (.iload_n 2, 1) := by decide +kernel
theorem dX6_beginChange_6 : decode cX6_beginChange 6 = .ok (.iload_n 3, 1) := by decide +kernel
theorem dX6_beginChange_7 : decode cX6_beginChange 7 = .ok (.invokevirtual 288, 3) := by decide +kernel
theorem dX6_beginChange_10 : decode cX6_beginChange 10 = .ok (.invokestatic 312, 3) := by decide +kernel
theorem dX6_beginChange_13 : decode cX6_beginChange 13 = .ok (.aload_n 0, 1) := by decide +kernel
theorem dX6_beginChange_14 : decode cX6_beginChange 14 = .ok (.getfield 29, 3) := by decide +kernel
theorem dX6_beginChange_17 : decode cX6_beginChange 17 = .ok (.aload_n 0, 1) := by decide +kernel
theorem dX6_beginChange_18 : decode cX6_beginChange 18 = .ok (.getfield 12, 3) := by decide +kernel
theorem dX6_beginChange_21 : decode cX6_beginChange 21 = .ok (.invokevirtual 297, 3) := by decide +kernel
theorem dX6_beginChange_24 : decode cX6_beginChange 24 = .ok (.return_, 1) := by decide +kernel
theorem dX6_refuse_0 : decode cX6_refuse 0 = .ok (.iload_n 0, 1) := by decide +kernel
theorem dX6_refuse_1 : decode cX6_refuse 1 = .ok (.iconst 1, 1) := by decide +kernel
theorem dX6_refuse_2 : decode cX6_refuse 2 = .ok (.if_icmp .ne 14, 3) := by decide +kernel
theorem dX6_refuse_5 : decode cX6_refuse 5 = .ok (.new 251, 3) := by decide +kernel
theorem dX6_refuse_8 : decode cX6_refuse 8 = .ok (.dup, 1) := by decide +kernel
theorem dX6_refuse_9 : decode cX6_refuse 9 = .ok (.ldc_w 315, 3) := by decide +kernel
theorem dX6_refuse_12 : decode cX6_refuse 12 = .ok (.invokespecial 255, 3) := by decide +kernel
theorem dX6_refuse_15 : decode cX6_refuse 15 = .ok (.athrow, 1) := by decide +kernel
theorem dX6_refuse_16 : decode cX6_refuse 16 = .ok (.iload_n 0, 1) := by decide +kernel
theorem dX6_refuse_17 : decode cX6_refuse 17 = .ok (.iconst 2, 1) := by decide +kernel
theorem dX6_refuse_18 : decode cX6_refuse 18 = .ok (.if_icmp .ne 14, 3) := by decide +kernel
theorem dX6_refuse_21 : decode cX6_refuse 21 = .ok (.new 176, 3) := by decide +kernel
theorem dX6_refuse_24 : decode cX6_refuse 24 = .ok (.dup, 1) := by decide +kernel
theorem dX6_refuse_25 : decode cX6_refuse 25 = .ok (.ldc_w 317, 3) := by decide +kernel
theorem dX6_refuse_28 : decode cX6_refuse 28 = .ok (.invokespecial 180, 3) := by decide +kernel
theorem dX6_refuse_31 : decode cX6_refuse 31 = .ok (.athrow, 1) := by decide +kernel
theorem dX6_refuse_32 : decode cX6_refuse 32 = .ok (.iload_n 0, 1) := by decide +kernel
theorem dX6_refuse_33 : decode cX6_refuse 33 = .ok (.iconst 3, 1) := by decide +kernel
theorem dX6_refuse_34 : decode cX6_refuse 34 = .ok (.if_icmp .ne 14, 3) := by decide +kernel
theorem dX6_refuse_37 : decode cX6_refuse 37 = .ok (.new 263, 3) := by decide +kernel
theorem dX6_refuse_40 : decode cX6_refuse 40 = .ok (.dup, 1) := by decide +kernel
theorem dX6_refuse_41 : decode cX6_refuse 41 = .ok (.ldc_w 319, 3) := by decide +kernel
theorem dX6_refuse_44 : decode cX6_refuse 44 = .ok (.invokespecial 267, 3) := by decide +kernel
theorem dX6_refuse_47 : decode cX6_refuse 47 = .ok (.athrow, 1) := by decide +kernel
theorem dX6_refuse_48 : decode cX6_refuse 48 = .ok (.iload_n 0, 1) := by decide +kernel
theorem dX6_refuse_49 : decode cX6_refuse 49 = .ok (.iconst 4, 1) := by decide +kernel
theorem dX6_refuse_50 : decode cX6_refuse 50 = .ok (.if_icmp .ne 14, 3) := by decide +kernel
theorem dX6_refuse_53 : decode cX6_refuse 53 = .ok (.new 321, 3) := by decide +kernel
theorem dX6_refuse_56 : decode cX6_refuse 56 = .ok (.dup, 1) := by decide +kernel
theorem dX6_refuse_57 : decode cX6_refuse 57 = .ok (.ldc_w 323, 3) := by decide +kernel
theorem dX6_refuse_60 : decode cX6_refuse 60 = .ok (.invokespecial 325, 3) := by decide +kernel
theorem dX6_refuse_63 : decode cX6_refuse 63 = .ok (.athrow, 1) := by decide +kernel
theorem dX6_refuse_64 : decode cX6_refuse 64 = .ok (.return_, 1) := by decide +kernel
theorem dX6_needBasin_0 : decode cX6_needBasin 0 = .ok (.iload_n 0, 1) := by decide +kernel
theorem dX6_needBasin_1 : decode cX6_needBasin 1 = .ok (.ifCond .lt 8, 3) := by decide +kernel
theorem dX6_needBasin_4 : decode cX6_needBasin 4 = .ok (.iload_n 0, 1) := by decide +kernel
theorem dX6_needBasin_5 : decode cX6_needBasin 5 = .ok (.iconst 5, 1) := by decide +kernel
theorem dX6_needBasin_6 : decode cX6_needBasin 6 = .ok (.if_icmp .lt 14, 3) := by decide +kernel
theorem dX6_needBasin_9 : decode cX6_needBasin 9 = .ok (.new 251, 3) := by decide +kernel
theorem dX6_needBasin_12 : decode cX6_needBasin 12 = .ok (.dup, 1) := by decide +kernel
theorem dX6_needBasin_13 : decode cX6_needBasin 13 = .ok (.ldc_w 326, 3) := by decide +kernel
theorem dX6_needBasin_16 : decode cX6_needBasin 16 = .ok (.invokespecial 255, 3) := by decide +kernel
theorem dX6_needBasin_19 : decode cX6_needBasin 19 = .ok (.athrow, 1) := by decide +kernel
theorem dX6_needBasin_20 : decode cX6_needBasin 20 = .ok (.return_, 1) := by decide +kernel
theorem dX6_needGate_0 : decode cX6_needGate 0 = .ok (.iload_n 0, 1) := by decide +kernel
theorem dX6_needGate_1 : decode cX6_needGate 1 = .ok (.invokestatic 328, 3) := by decide +kernel
theorem dX6_needGate_4 : decode cX6_needGate 4 = .ok (.ifCond .ne 14, 3) := by decide +kernel
theorem dX6_needGate_7 : decode cX6_needGate 7 = .ok (.new 251, 3) := by decide +kernel
theorem dX6_needGate_10 : decode cX6_needGate 10 = .ok (.dup, 1) := by decide +kernel
theorem dX6_needGate_11 : decode cX6_needGate 11 = .ok (.ldc_w 315, 3) := by decide +kernel
theorem dX6_needGate_14 : decode cX6_needGate 14 = .ok (.invokespecial 255, 3) := by decide +kernel
theorem dX6_needGate_17 : decode cX6_needGate 17 = .ok (.athrow, 1) := by decide +kernel
theorem dX6_needGate_18 : decode cX6_needGate 18 = .ok (.return_, 1) := by decide +kernel
theorem dX6_needBoat_0 : decode cX6_needBoat 0 = .ok (.iload_n 1, 1) := by decide +kernel
theorem dX6_needBoat_1 : decode cX6_needBoat 1 = .ok (.ifCond .lt 17, 3) := by decide +kernel
theorem dX6_needBoat_4 : decode cX6_needBoat 4 = .ok (.iload_n 1, 1) := by decide +kernel
theorem dX6_needBoat_5 : decode cX6_needBoat 5 = .ok (.aload_n 0, 1) := by decide +kernel
theorem dX6_needBoat_6 : decode cX6_needBoat 6 = .ok (.getfield 12, 3) := by decide +kernel
theorem dX6_needBoat_9 : decode cX6_needBoat 9 = .ok (.getfield 138, 3) := by decide +kernel
theorem dX6_needBoat_12 : decode cX6_needBoat 12 = .ok (.getfield 142, 3) := by decide +kernel
theorem dX6_needBoat_15 : decode cX6_needBoat 15 = .ok (.if_icmp .lt 14, 3) := by decide +kernel
theorem dX6_needBoat_18 : decode cX6_needBoat 18 = .ok (.new 251, 3) := by decide +kernel
theorem dX6_needBoat_21 : decode cX6_needBoat 21 = .ok (.dup, 1) := by decide +kernel
theorem dX6_needBoat_22 : decode cX6_needBoat 22 = .ok (.ldc_w 331, 3) := by decide +kernel
theorem dX6_needBoat_25 : decode cX6_needBoat 25 = .ok (.invokespecial 255, 3) := by decide +kernel
theorem dX6_needBoat_28 : decode cX6_needBoat 28 = .ok (.athrow, 1) := by decide +kernel
theorem dX6_needBoat_29 : decode cX6_needBoat 29 = .ok (.return_, 1) := by decide +kernel
theorem dX6_needEvent_0 : decode cX6_needEvent 0 = .ok (.iload_n 1, 1) := by decide +kernel
theorem dX6_needEvent_1 : decode cX6_needEvent 1 = .ok (.ifCond .lt 17, 3) := by decide +kernel
theorem dX6_needEvent_4 : decode cX6_needEvent 4 = .ok (.iload_n 1, 1) := by decide +kernel
theorem dX6_needEvent_5 : decode cX6_needEvent 5 = .ok (.aload_n 0, 1) := by decide +kernel
theorem dX6_needEvent_6 : decode cX6_needEvent 6 = .ok (.getfield 12, 3) := by decide +kernel
theorem dX6_needEvent_9 : decode cX6_needEvent 9 = .ok (.getfield 204, 3) := by decide +kernel
theorem dX6_needEvent_12 : decode cX6_needEvent 12 = .ok (.getfield 208, 3) := by decide +kernel
theorem dX6_needEvent_15 : decode cX6_needEvent 15 = .ok (.if_icmp .lt 14, 3) := by decide +kernel
theorem dX6_needEvent_18 : decode cX6_needEvent 18 = .ok (.new 131, 3) := by decide +kernel
theorem dX6_needEvent_21 : decode cX6_needEvent 21 = .ok (.dup, 1) := by decide +kernel
theorem dX6_needEvent_22 : decode cX6_needEvent 22 = .ok (.ldc_w 333, 3) := by decide +kernel
theorem dX6_needEvent_25 : decode cX6_needEvent 25 = .ok (.invokespecial 135, 3) := by decide +kernel
theorem dX6_needEvent_28 : decode cX6_needEvent 28 = .ok (.athrow, 1) := by decide +kernel
theorem dX6_needEvent_29 : decode cX6_needEvent 29 = .ok (.return_, 1) := by decide +kernel
theorem dX6_isGate_0 : decode cX6_isGate 0 = .ok (.iload_n 0, 1) := by decide +kernel
theorem dX6_isGate_1 : decode cX6_isGate 1 = .ok (.ifCond .lt 12, 3) := by decide +kernel
theorem dX6_isGate_4 : decode cX6_isGate 4 = .ok (.iload_n 0, 1) := by decide +kernel
theorem dX6_isGate_5 : decode cX6_isGate 5 = .ok (.iconst 4, 1) := by decide +kernel
theorem dX6_isGate_6 : decode cX6_isGate 6 = .ok (.if_icmp .ge 7, 3) := by decide +kernel
theorem dX6_isGate_9 : decode cX6_isGate 9 = .ok (.iconst 1, 1) := by decide +kernel
theorem dX6_isGate_10 : decode cX6_isGate 10 = .ok (.goto 4, 3) := by decide +kernel
theorem dX6_isGate_13 : decode cX6_isGate 13 = .ok (.iconst 0, 1) := by decide +kernel
theorem dX6_isGate_14 : decode cX6_isGate 14 = .ok (.ireturn, 1) := by decide +kernel
theorem dX6_areaOf_0 : decode cX6_areaOf 0 = .ok (.iload_n 0, 1) := by decide +kernel
theorem dX6_areaOf_1 : decode cX6_areaOf 1 = .ok (.ifCond .eq 8, 3) := by decide +kernel
theorem dX6_areaOf_4 : decode cX6_areaOf 4 = .ok (.iload_n 0, 1) := by decide +kernel
theorem dX6_areaOf_5 : decode cX6_areaOf 5 = .ok (.iconst 4, 1) := by decide +kernel
theorem dX6_areaOf_6 : decode cX6_areaOf 6 = .ok (.if_icmp .ne 8, 3) := by decide +kernel
theorem dX6_areaOf_9 : decode cX6_areaOf 9 = .ok (.bipush 10, 2) := by decide +kernel
theorem dX6_areaOf_11 : decode cX6_areaOf 11 = .ok (.goto 5, 3) := by decide +kernel
theorem dX6_areaOf_14 : decode cX6_areaOf 14 = .ok (.bipush 6, 2) := by decide +kernel
theorem dX6_areaOf_16 : decode cX6_areaOf 16 = .ok (.ireturn, 1) := by decide +kernel
theorem dX6_colourNumber_0 : decode cX6_colourNumber 0 = .ok (.iconst 0, 1) := by decide +kernel
theorem dX6_colourNumber_1 : decode cX6_colourNumber 1 = .ok (.istore_n 1, 1) := by decide +kernel
theorem dX6_colourNumber_2 : decode cX6_colourNumber 2 = .ok (.iload_n 1, 1) := by decide +kernel
theorem dX6_colourNumber_3 : decode cX6_colourNumber 3 = .ok (.iconst 3, 1) := by decide +kernel
theorem dX6_colourNumber_4 : decode cX6_colourNumber 4 = .ok (.if_icmp .ge 20, 3) := by decide +kernel
theorem dX6_colourNumber_7 : decode cX6_colourNumber 7 = .ok (.getstatic 335, 3) := by decide +kernel
theorem dX6_colourNumber_10 : decode cX6_colourNumber 10 = .ok (.iload_n 1, 1) := by decide +kernel
theorem dX6_colourNumber_11 : decode cX6_colourNumber 11 = .ok (.caload, 1) := by decide +kernel
theorem dX6_colourNumber_12 : decode cX6_colourNumber 12 = .ok (.iload_n 0, 1) := by decide +kernel
theorem dX6_colourNumber_13 : decode cX6_colourNumber 13 = .ok (.if_icmp .ne 5, 3) := by decide +kernel
theorem dX6_colourNumber_16 : decode cX6_colourNumber 16 = .ok (.iload_n 1, 1) := by decide +kernel
theorem dX6_colourNumber_17 : decode cX6_colourNumber 17 = .ok (.ireturn, 1) := by decide +kernel
theorem dX6_colourNumber_18 : decode cX6_colourNumber 18 = .ok (.iinc 1 1, 3) := by decide +kernel
theorem dX6_colourNumber_21 : decode cX6_colourNumber 21 = .ok (.goto (-19), 3) := by decide +kernel
theorem dX6_colourNumber_24 : decode cX6_colourNumber 24 = .ok (.iconst (-1), 1) := by decide +kernel
theorem dX6_colourNumber_25 : decode cX6_colourNumber 25 = .ok (.ireturn, 1) := by decide +kernel
theorem dX7_init_0 : decode cX7_init 0 = .ok (.aload_n 0, 1) := by decide +kernel
theorem dX7_init_1 : decode cX7_init 1 = .ok (.invokespecial 1, 3) := by decide +kernel
theorem dX7_init_4 : decode cX7_init 4 = .ok (.aload_n 0, 1) := by decide +kernel
theorem dX7_init_5 : decode cX7_init 5 = .ok (.sipush 960, 3) := by decide +kernel
theorem dX7_init_8 : decode cX7_init 8 = .ok (.newarray .int, 2) := by decide +kernel
theorem dX7_init_10 : decode cX7_init 10 = .ok (.putfield 9, 3) := by decide +kernel
theorem dX7_init_13 : decode cX7_init 13 = .ok (.aload_n 0, 1) := by decide +kernel
theorem dX7_init_14 : decode cX7_init 14 = .ok (.bipush 40, 2) := by decide +kernel
theorem dX7_init_16 : decode cX7_init 16 = .ok (.newarray .char, 2) := by decide +kernel
theorem dX7_init_18 : decode cX7_init 18 = .ok (.putfield 13, 3) := by decide +kernel
theorem dX7_init_21 : decode cX7_init 21 = .ok (.aload_n 0, 1) := by decide +kernel
theorem dX7_init_22 : decode cX7_init 22 = .ok (.bipush 60, 2) := by decide +kernel
theorem dX7_init_24 : decode cX7_init 24 = .ok (.newarray .char, 2) := by decide +kernel
theorem dX7_init_26 : decode cX7_init 26 = .ok (.putfield 17, 3) := by decide +kernel
theorem dX7_init_29 : decode cX7_init 29 = .ok (.aload_n 0, 1) := by decide +kernel
theorem dX7_init_30 : decode cX7_init 30 = .ok (.iconst (-1), 1) := by decide +kernel
theorem dX7_init_31 : decode cX7_init 31 = .ok (.putfield 20, 3) := by decide +kernel
theorem dX7_init_34 : decode cX7_init 34 = .ok (.aload_n 0, 1) := by decide +kernel
theorem dX7_init_35 : decode cX7_init 35 = .ok (.iconst (-1), 1) := by decide +kernel
theorem dX7_init_36 : decode cX7_init 36 = .ok (.putfield 24, 3) := by decide +kernel
theorem dX7_init_39 : decode cX7_init 39 = .ok (.aload_n 0, 1) := by decide +kernel
theorem dX7_init_40 : decode cX7_init 40 = .ok (.sipush 244, 3) := by decide +kernel
theorem dX7_init_43 : decode cX7_init 43 = .ok (.newarray .int, 2) := by decide +kernel
theorem dX7_init_45 : decode cX7_init 45 = .ok (.putfield 27, 3) := by decide +kernel
theorem dX7_init_48 : decode cX7_init 48 = .ok (.aload_n 0, 1) := by decide +kernel
theorem dX7_init_49 : decode cX7_init 49 = .ok (.getfield 9, 3) := by decide +kernel
theorem dX7_init_52 : decode cX7_init 52 = .ok (.bipush 11, 2) := by decide +kernel
theorem dX7_init_54 : decode cX7_init 54 = .ok (.sipush 300, 3) := by decide +kernel
theorem dX7_init_57 : decode cX7_init 57 = .ok (.iastore, 1) := by decide +kernel
theorem dX7_init_58 : decode cX7_init 58 = .ok (.aload_n 0, 1) := by decide +kernel
theorem dX7_init_59 : decode cX7_init 59 = .ok (.getfield 9, 3) := by decide +kernel
theorem dX7_init_62 : decode cX7_init 62 = .ok (.bipush 12, 2) := by decide +kernel
theorem dX7_init_64 : decode cX7_init 64 = .ok (.sipush 144, 3) := by decide +kernel
theorem dX7_init_67 : decode cX7_init 67 = .ok (.iastore, 1) := by decide +kernel
theorem dX7_init_68 : decode cX7_init 68 = .ok (.aload_n 0, 1) := by decide +kernel
theorem dX7_init_69 : decode cX7_init 69 = .ok (.getfield 9, 3) := by decide +kernel
theorem dX7_init_72 : decode cX7_init 72 = .ok (.bipush 13, 2) := by decide +kernel
theorem dX7_init_74 : decode cX7_init 74 = .ok (.bipush 108, 2) := by decide +kernel
theorem dX7_init_76 : decode cX7_init 76 = .ok (.iastore, 1) := by decide +kernel
theorem dX7_init_77 : decode cX7_init 77 = .ok (.aload_n 0, 1) := by decide +kernel
theorem dX7_init_78 : decode cX7_init 78 = .ok (.getfield 9, 3) := by decide +kernel
theorem dX7_init_81 : decode cX7_init 81 = .ok (.bipush 14, 2) := by decide +kernel
theorem dX7_init_83 : decode cX7_init 83 = .ok (.bipush 72, 2) := by decide +kernel
theorem dX7_init_85 : decode cX7_init 85 = .ok (.iastore, 1) := by decide +kernel
theorem dX7_init_86 : decode cX7_init 86 = .ok (.aload_n 0, 1) := by decide +kernel
theorem dX7_init_87 : decode cX7_init 87 = .ok (.getfield 9, 3) := by decide +kernel
theorem dX7_init_90 : decode cX7_init 90 = .ok (.bipush 15, 2) := by decide +kernel
theorem dX7_init_92 : decode cX7_init 92 = .ok (.bipush 60, 2) := by decide +kernel
theorem dX7_init_94 : decode cX7_init 94 = .ok (.iastore, 1) := by decide +kernel
theorem dX7_init_95 : decode cX7_init 95 = .ok (.return_, 1) := by decide +kernel
theorem dX7_thrown_0 : decode cX7_thrown 0 = .ok (.aload_n 0, 1) := by decide +kernel
theorem dX7_thrown_1 : decode cX7_thrown 1 = .ok (.getfield 30, 3) := by decide +kernel
theorem dX7_thrown_4 : decode cX7_thrown 4 = .ok (.ireturn, 1) := by decide +kernel
theorem dX7_in_0 : decode cX7_in 0 = .ok (.iload_n 0, 1) := by decide +kernel
theorem dX7_in_1 : decode cX7_in 1 = .ok (.iload_n 1, 1) := by decide +kernel
theorem dX7_in_2 : decode cX7_in 2 = .ok (.if_icmp .lt 12, 3) := by decide +kernel
theorem dX7_in_5 : decode cX7_in 5 = .ok (.iload_n 0, 1) := by decide +kernel
theorem dX7_in_6 : decode cX7_in 6 = .ok (.iload_n 2, 1) := by decide +kernel
theorem dX7_in_7 : decode cX7_in 7 = .ok (.if_icmp .gt 7, 3) := by decide +kernel
theorem dX7_in_10 : decode cX7_in 10 = .ok (.iconst 1, 1) := by decide +kernel
theorem dX7_in_11 : decode cX7_in 11 = .ok (.goto 4, 3) := by decide +kernel
theorem dX7_in_14 : decode cX7_in 14 = .ok (.iconst 0, 1) := by decide +kernel
theorem dX7_in_15 : decode cX7_in 15 = .ok (.ireturn, 1) := by decide +kernel
theorem dX7_copies_0 : decode cX7_copies 0 = .ok (.iconst 0, 1) := by decide +kernel
theorem dX7_copies_1 : decode cX7_copies 1 = .ok (.istore_n 3, 1) := by decide +kernel
theorem dX7_copies_2 : decode cX7_copies 2 = .ok (.iload_n 3, 1) := by decide +kernel
theorem dX7_copies_3 : decode cX7_copies 3 = .ok (.bipush 80, 2) := by decide +kernel
theorem dX7_copies_5 : decode cX7_copies 5 = .ok (.if_icmp .ge 31, 3) := by decide +kernel
theorem dX7_copies_8 : decode cX7_copies 8 = .ok (.aload_n 0, 1) := by decide +kernel
theorem dX7_copies_9 : decode cX7_copies 9 = .ok (.getfield 9, 3) := by decide +kernel
theorem dX7_copies_12 : decode cX7_copies 12 = .ok (.bipush 80, 2) := by decide +kernel
theorem dX7_copies_14 : decode cX7_copies 14 = .ok (.iload_n 2, 1) := by decide +kernel
theorem dX7_copies_15 : decode cX7_copies 15 = .ok (.imul, 1) := by decide +kernel
theorem dX7_copies_16 : decode cX7_copies 16 = .ok (.iload_n 3, 1) := by decide +kernel
theorem dX7_copies_17 : decode cX7_copies 17 = .ok (.iadd, 1) := by decide +kernel
theorem dX7_copies_18 : decode cX7_copies 18 = .ok (.aload_n 0, 1) := by decide +kernel
theorem dX7_copies_19 : decode cX7_copies 19 = .ok (.getfield 9, 3) := by decide +kernel
theorem dX7_copies_22 : decode cX7_copies 22 = .ok (.bipush 80, 2) := by decide +kernel
theorem dX7_copies_24 : decode cX7_copies 24 = .ok (.iload_n 1, 1) := by decide +kernel
theorem dX7_copies_25 : decode cX7_copies 25 = .ok (.imul, 1) := by decide +kernel
theorem dX7_copies_26 : decode cX7_copies 26 = .ok (.iload_n 3, 1) := by decide +kernel
theorem dX7_copies_27 : decode cX7_copies 27 = .ok (.iadd, 1) := by decide +kernel
theorem dX7_copies_28 : decode cX7_copies 28 = .ok (.iaload, 1) := by decide +kernel
theorem dX7_copies_29 : decode cX7_copies 29 = .ok (.iastore, 1) := by decide +kernel
theorem dX7_copies_30 : decode cX7_copies 30 = .ok (.iinc 3 1, 3) := by decide +kernel
theorem dX7_copies_33 : decode cX7_copies 33 = .ok (.goto (-31), 3) := by decide +kernel
theorem dX7_copies_36 : decode cX7_copies 36 = .ok (.return_, 1) := by decide +kernel
theorem dX7_begins_0 : decode cX7_begins 0 = .ok (.aload_n 0, 1) := by decide +kernel
theorem dX7_begins_1 : decode cX7_begins 1 = .ok (.iconst 0, 1) := by decide +kernel
theorem dX7_begins_2 : decode cX7_begins 2 = .ok (.bipush 10, 2) := by decide +kernel
theorem dX7_begins_4 : decode cX7_begins 4 = .ok (.invokevirtual 33, 3) := by decide +kernel
theorem dX7_begins_7 : decode cX7_begins 7 = .ok (.return_, 1) := by decide +kernel
theorem dX7_ends_0 : decode cX7_ends 0 = .ok (.aload_n 0, 1) := by decide +kernel
theorem dX7_ends_1 : decode cX7_ends 1 = .ok (.iload_n 1, 1) := by decide +kernel
theorem dX7_ends_2 : decode cX7_ends 2 = .ok (.iconst 1, 1) := by decide +kernel
theorem dX7_ends_3 : decode cX7_ends 3 = .ok (.if_icmp .ne 7, 3) := by decide +kernel
theorem dX7_ends_6 : decode cX7_ends 6 = .ok (.iload_n 2, 1) := by decide +kernel
theorem dX7_ends_7 : decode cX7_ends 7 = .ok (.goto 33, 3) := by decide +kernel
theorem dX7_ends_10 : decode cX7_ends 10 = .ok (.iload_n 1, 1) := by decide +kernel
theorem dX7_ends_11 : decode cX7_ends 11 = .ok (.iconst 2, 1) := by decide +kernel
theorem dX7_ends_12 : decode cX7_ends 12 = .ok (.if_icmp .ne 7, 3) := by decide +kernel
theorem dX7_ends_15 : decode cX7_ends 15 = .ok (.iload_n 3, 1) := by decide +kernel
theorem dX7_ends_16 : decode cX7_ends 16 = .ok (.goto 24, 3) := by decide +kernel
theorem dX7_ends_19 : decode cX7_ends 19 = .ok (.iload_n 1, 1) := by decide +kernel
theorem dX7_ends_20 : decode cX7_ends 20 = .ok (.iconst 3, 1) := by decide +kernel
theorem dX7_ends_21 : decode cX7_ends 21 = .ok (.if_icmp .ne 8, 3) := by decide +kernel
theorem dX7_ends_24 : decode cX7_ends 24 = .ok (.iload 4, 2) := by decide +kernel
theorem dX7_ends_26 : decode cX7_ends 26 = .ok (.goto 14, 3) := by decide +kernel
theorem dX7_ends_29 : decode cX7_ends 29 = .ok (.iload_n 1, 1) := by decide +kernel
theorem dX7_ends_30 : decode cX7_ends 30 = .ok (.iconst 4, 1) := by decide +kernel
theorem dX7_ends_31 : decode cX7_ends 31 = .ok (.if_icmp .ne 8, 3) := by decide +kernel
theorem dX7_ends_34 : decode cX7_ends 34 = .ok (.iload 5, 2) := by decide +kernel
theorem dX7_ends_36 : decode cX7_ends 36 = .ok (.goto 4, 3) := by decide +kernel
theorem dX7_ends_39 : decode cX7_ends 39 = .ok (.iconst 0, 1) := by decide +kernel
theorem dX7_ends_40 : decode cX7_ends 40 = .ok (.putfield 30, 3) := by decide +kernel
theorem dX7_ends_43 : decode cX7_ends 43 = .ok (.aload_n 0, 1) := by decide +kernel
theorem dX7_ends_44 : decode cX7_ends 44 = .ok (.getfield 30, 3) := by decide +kernel
theorem dX7_ends_47 : decode cX7_ends 47 = .ok (.ifCond .eq 12, 3) := by decide +kernel
theorem dX7_ends_50 : decode cX7_ends 50 = .ok (.aload_n 0, 1) := by decide +kernel
theorem dX7_ends_51 : decode cX7_ends 51 = .ok (.bipush 10, 2) := by decide +kernel
theorem dX7_ends_53 : decode cX7_ends 53 = .ok (.iconst 0, 1) := by decide +kernel
theorem dX7_ends_54 : decode cX7_ends 54 = .ok (.invokevirtual 33, 3) := by decide +kernel
theorem dX7_ends_57 : decode cX7_ends 57 = .ok (.iconst 0, 1) := by decide +kernel
theorem dX7_ends_58 : decode cX7_ends 58 = .ok (.ireturn, 1) := by decide +kernel
theorem dX7_ends_59 : decode cX7_ends 59 = .ok (.aload_n 0, 1) := by decide +kernel
theorem dX7_ends_60 : decode cX7_ends 60 = .ok (.getfield 37, 3) := by decide +kernel
theorem dX7_ends_63 : decode cX7_ends 63 = .ok (.bipush 8, 2) := by decide +kernel
theorem dX7_ends_65 : decode cX7_ends 65 = .ok (.if_icmp .ne 39, 3) := by decide +kernel
theorem dX7_ends_68 : decode cX7_ends 68 = .ok (.iconst 1, 1) := by decide +kernel
theorem dX7_ends_69 : decode cX7_ends 69 = .ok (.istore 6, 2) := by decide +kernel
theorem dX7_ends_71 : decode cX7_ends 71 = .ok (.iload 6, 2) := by decide +kernel
theorem dX7_ends_73 : decode cX7_ends 73 = .ok (.bipush 8, 2) := by decide +kernel
theorem dX7_ends_75 : decode cX7_ends 75 = .ok (.if_icmp .ge 19, 3) := by decide +kernel
theorem dX7_ends_78 : decode cX7_ends 78 = .ok (.aload_n 0, 1) := by decide +kernel
theorem dX7_ends_79 : decode cX7_ends 79 = .ok (.iload 6, 2) := by decide +kernel
theorem dX7_ends_81 : decode cX7_ends 81 = .ok (.iconst 1, 1) := by decide +kernel
theorem dX7_ends_82 : decode cX7_ends 82 = .ok (.iadd, 1) := by decide +kernel
theorem dX7_ends_83 : decode cX7_ends 83 = .ok (.iload 6, 2) := by decide +kernel
theorem dX7_ends_85 : decode cX7_ends 85 = .ok (.invokevirtual 33, 3) := by decide +kernel
theorem dX7_ends_88 : decode cX7_ends 88 = .ok (.iinc 6 1, 3) := by decide +kernel
theorem dX7_ends_91 : decode cX7_ends 91 = .ok (.goto (-20), 3) := by decide +kernel
theorem dX7_ends_94 : decode cX7_ends 94 = .ok (.aload_n 0, 1) := by decide +kernel
theorem dX7_ends_95 : decode cX7_ends 95 = .ok (.dup, 1) := by decide +kernel
theorem dX7_ends_96 : decode cX7_ends 96 = .ok (.getfield 37, 3) := by decide +kernel
theorem dX7_ends_99 : decode cX7_ends 99 = .ok (.iconst 1, 1) := by decide +kernel
theorem dX7_ends_100 : decode cX7_ends 100 = .ok (.isub, 1) := by decide +kernel
theorem dX7_ends_101 : decode cX7_ends 101 = .ok (.putfield 37, 3) := by decide +kernel
theorem dX7_ends_104 : decode cX7_ends 104 = .ok (.aload_n 0, 1) := by decide +kernel
theorem dX7_ends_105 : decode cX7_ends 105 = .ok (.dup, 1) := by decide +kernel
theorem dX7_ends_106 : decode cX7_ends 106 = .ok (.getfield 37, 3) := by decide +kernel
theorem dX7_ends_109 : decode cX7_ends 109 = .ok (.iconst 1, 1) := by decide +kernel
theorem dX7_ends_110 : decode cX7_ends 110 = .ok (.iadd, 1) := by decide +kernel
theorem dX7_ends_111 : decode cX7_ends 111 = .ok (.putfield 37, 3) := by decide +kernel
theorem dX7_ends_114 : decode cX7_ends 114 = .ok (.aload_n 0, 1) := by decide +kernel
theorem dX7_ends_115 : decode cX7_ends 115 = .ok (.bipush 10, 2) := by decide +kernel
theorem dX7_ends_117 : decode cX7_ends 117 = .ok (.aload_n 0, 1) := by decide +kernel
theorem dX7_ends_118 : decode cX7_ends 118 = .ok (.getfield 37, 3) := by decide +kernel
theorem dX7_ends_121 : decode cX7_ends 121 = .ok (.invokevirtual 33, 3) := by decide +kernel
theorem dX7_ends_124 : decode cX7_ends 124 = .ok (.aload_n 0, 1) := by decide +kernel
theorem dX7_ends_125 : decode cX7_ends 125 = .ok (.getfield 40, 3) := by decide +kernel
theorem dX7_ends_128 : decode cX7_ends 128 = .ok (.ireturn, 1) := by decide +kernel
theorem dX7_isFine_0 : decode cX7_isFine 0 = .ok (.aload_n 0, 1) := by decide +kernel
theorem dX7_isFine_1 : decode cX7_isFine 1 = .ok (.iload_n 1, 1) := by decide +kernel
theorem dX7_isFine_2 : decode cX7_isFine 2 = .ok (.ifCond .eq 7, 3) := by decide +kernel
theorem dX7_isFine_5 : decode cX7_isFine 5 = .ok (.iconst 0, 1) := by decide +kernel
theorem dX7_isFine_6 : decode cX7_isFine 6 = .ok (.goto 4, 3) := by decide +kernel
theorem dX7_isFine_9 : decode cX7_isFine 9 = .ok (.iconst 1, 1) := by decide +kernel
theorem dX7_isFine_10 : decode cX7_isFine 10 = .ok (.putfield 30, 3) := by decide +kernel
theorem dX7_isFine_13 : decode cX7_isFine 13 = .ok (.iload_n 1, 1) := by decide +kernel
theorem dX7_isFine_14 : decode cX7_isFine 14 = .ok (.ireturn, 1) := by decide +kernel
theorem dX7_isBasin_0 : decode cX7_isBasin 0 = .ok (.iload_n 0, 1) := by decide +kernel
theorem dX7_isBasin_1 : decode cX7_isBasin 1 = .ok (.iconst 0, 1) := by decide +kernel
theorem dX7_isBasin_2 : decode cX7_isBasin 2 = .ok (.iconst 4, 1) := by decide +kernel
theorem dX7_isBasin_3 : decode cX7_isBasin 3 = .ok (.invokestatic 43, 3) := by decide +kernel
theorem dX7_isBasin_6 : decode cX7_isBasin 6 = .ok (.ireturn, 1) := by decide +kernel
theorem dX7_isGate_0 : decode cX7_isGate 0 = .ok (.iload_n 0, 1) := by decide +kernel
theorem dX7_isGate_1 : decode cX7_isGate 1 = .ok (.iconst 0, 1) := by decide +kernel
theorem dX7_isGate_2 : decode cX7_isGate 2 = .ok (.iconst 3, 1) := by decide +kernel
theorem dX7_isGate_3 : decode cX7_isGate 3 = .ok (.invokestatic 43, 3) := by decide +kernel
theorem dX7_isGate_6 : decode cX7_isGate 6 = .ok (.ireturn, 1) := by decide +kernel
theorem dX7_size_0 : decode cX7_size 0 = .ok (.iload_n 0, 1) := by decide +kernel
theorem dX7_size_1 : decode cX7_size 1 = .ok (.ifCond .eq 8, 3) := by decide +kernel
theorem dX7_size_4 : decode cX7_size 4 = .ok (.iload_n 0, 1) := by decide +kernel
theorem dX7_size_5 : decode cX7_size 5 = .ok (.iconst 4, 1) := by decide +kernel
theorem dX7_size_6 : decode cX7_size 6 = .ok (.if_icmp .ne 8, 3) := by decide +kernel
theorem dX7_size_9 : decode cX7_size 9 = .ok (.bipush 10, 2) := by decide +kernel
theorem dX7_size_11 : decode cX7_size 11 = .ok (.goto 5, 3) := by decide +kernel
theorem dX7_size_14 : decode cX7_size 14 = .ok (.bipush 6, 2) := by decide +kernel
theorem dX7_size_16 : decode cX7_size 16 = .ok (.ireturn, 1) := by decide +kernel
theorem dX7_above_0 : decode cX7_above 0 = .ok (.aload_n 0, 1) := by decide +kernel
theorem dX7_above_1 : decode cX7_above 1 = .ok (.getfield 9, 3) := by decide +kernel
theorem dX7_above_4 : decode cX7_above 4 = .ok (.bipush 11, 2) := by decide +kernel
theorem dX7_above_6 : decode cX7_above 6 = .ok (.iload_n 1, 1) := by decide +kernel
theorem dX7_above_7 : decode cX7_above 7 = .ok (.iadd, 1) := by decide +kernel
theorem dX7_above_8 : decode cX7_above 8 = .ok (.iaload, 1) := by decide +kernel
theorem dX7_above_9 : decode cX7_above 9 = .ok (.iload_n 2, 1) := by decide +kernel
theorem dX7_above_10 : decode cX7_above 10 = .ok (.invokestatic 47, 3) := by decide +kernel
theorem dX7_above_13 : decode cX7_above 13 = .ok (.imul, 1) := by decide +kernel
theorem dX7_above_14 : decode cX7_above 14 = .ok (.aload_n 0, 1) := by decide +kernel
theorem dX7_above_15 : decode cX7_above 15 = .ok (.getfield 9, 3) := by decide +kernel
theorem dX7_above_18 : decode cX7_above 18 = .ok (.bipush 11, 2) := by decide +kernel
theorem dX7_above_20 : decode cX7_above 20 = .ok (.iload_n 2, 1) := by decide +kernel
theorem dX7_above_21 : decode cX7_above 21 = .ok (.iadd, 1) := by decide +kernel
theorem dX7_above_22 : decode cX7_above 22 = .ok (.iaload, 1) := by decide +kernel
theorem dX7_above_23 : decode cX7_above 23 = .ok (.iload_n 1, 1) := by decide +kernel
theorem dX7_above_24 : decode cX7_above 24 = .ok (.invokestatic 47, 3) := by decide +kernel
theorem dX7_above_27 : decode cX7_above 27 = .ok (.imul, 1) := by decide +kernel
theorem dX7_above_28 : decode cX7_above 28 = .ok (.isub, 1) := by decide +kernel
theorem dX7_above_29 : decode cX7_above 29 = .ok (.ireturn, 1) := by decide +kernel
theorem dX7_equal_0 : decode cX7_equal 0 = .ok (.aload_n 0, 1) := by decide +kernel
theorem dX7_equal_1 : decode cX7_equal 1 = .ok (.iload_n 1, 1) := by decide +kernel
theorem dX7_equal_2 : decode cX7_equal 2 = .ok (.iload_n 1, 1) := by decide +kernel
theorem dX7_equal_3 : decode cX7_equal 3 = .ok (.iconst 1, 1) := by decide +kernel
theorem dX7_equal_4 : decode cX7_equal 4 = .ok (.iadd, 1) := by decide +kernel
theorem dX7_equal_5 : decode cX7_equal 5 = .ok (.invokevirtual 51, 3) := by decide +kernel
theorem dX7_equal_8 : decode cX7_equal 8 = .ok (.istore_n 2, 1) := by decide +kernel
theorem dX7_equal_9 : decode cX7_equal 9 = .ok (.iload_n 2, 1) := by decide +kernel
theorem dX7_equal_10 : decode cX7_equal 10 = .ok (.ifCond .ge 8, 3) := by decide +kernel
theorem dX7_equal_13 : decode cX7_equal 13 = .ok (.iload_n 2, 1) := by decide +kernel
theorem dX7_equal_14 : decode cX7_equal 14 = .ok (.ineg, 1) := by decide +kernel
theorem dX7_equal_15 : decode cX7_equal 15 = .ok (.goto 4, 3) := by decide +kernel
theorem dX7_equal_18 : decode cX7_equal 18 = .ok (.iload_n 2, 1) := by decide +kernel
theorem dX7_equal_19 : decode cX7_equal 19 = .ok (.iload_n 1, 1) := by decide +kernel
theorem dX7_equal_20 : decode cX7_equal 20 = .ok (.invokestatic 47, 3) := by decide +kernel
theorem dX7_equal_23 : decode cX7_equal 23 = .ok (.iload_n 1, 1) := by decide +kernel
theorem dX7_equal_24 : decode cX7_equal 24 = .ok (.iconst 1, 1) := by decide +kernel
theorem dX7_equal_25 : decode cX7_equal 25 = .ok (.iadd, 1) := by decide +kernel
theorem dX7_equal_26 : decode cX7_equal 26 = .ok (.invokestatic 47, 3) := by decide +kernel
theorem dX7_equal_29 : decode cX7_equal 29 = .ok (.iadd, 1) := by decide +kernel
theorem dX7_equal_30 : decode cX7_equal 30 = .ok (.idiv, 1) := by decide +kernel
theorem dX7_equal_31 : decode cX7_equal 31 = .ok (.ireturn, 1) := by decide +kernel
theorem dX7_flows_0 : decode cX7_flows 0 = .ok (.aload_n 0, 1) := by decide +kernel
theorem dX7_flows_1 : decode cX7_flows 1 = .ok (.iload_n 1, 1) := by decide +kernel
theorem dX7_flows_2 : decode cX7_flows 2 = .ok (.invokevirtual 55, 3) := by decide +kernel
theorem dX7_flows_5 : decode cX7_flows 5 = .ok (.istore_n 2, 1) := by decide +kernel
theorem dX7_flows_6 : decode cX7_flows 6 = .ok (.iconst 5, 1) := by decide +kernel
theorem dX7_flows_7 : decode cX7_flows 7 = .ok (.aload_n 0, 1) := by decide +kernel
theorem dX7_flows_8 : decode cX7_flows 8 = .ok (.getfield 9, 3) := by decide +kernel
theorem dX7_flows_11 : decode cX7_flows 11 = .ok (.bipush 16, 2) := by decide +kernel
theorem dX7_flows_13 : decode cX7_flows 13 = .ok (.iload_n 1, 1) := by decide +kernel
theorem dX7_flows_14 : decode cX7_flows 14 = .ok (.iadd, 1) := by decide +kernel
theorem dX7_flows_15 : decode cX7_flows 15 = .ok (.iaload, 1) := by decide +kernel
theorem dX7_flows_16 : decode cX7_flows 16 = .ok (.imul, 1) := by decide +kernel
theorem dX7_flows_17 : decode cX7_flows 17 = .ok (.istore_n 3, 1) := by decide +kernel
theorem dX7_flows_18 : decode cX7_flows 18 = .ok (.aload_n 0, 1) := by decide +kernel
theorem dX7_flows_19 : decode cX7_flows 19 = .ok (.getfield 9, 3) := by decide +kernel
theorem dX7_flows_22 : decode cX7_flows 22 = .ok (.bipush 20, 2) := by decide +kernel
theorem dX7_flows_24 : decode cX7_flows 24 = .ok (.iload_n 1, 1) := by decide +kernel
theorem dX7_flows_25 : decode cX7_flows 25 = .ok (.iadd, 1) := by decide +kernel
theorem dX7_flows_26 : decode cX7_flows 26 = .ok (.iaload, 1) := by decide +kernel
theorem dX7_flows_27 : decode cX7_flows 27 = .ok (.ifCond .ne 12, 3) := by decide +kernel
theorem dX7_flows_30 : decode cX7_flows 30 = .ok (.iload_n 3, 1) := by decide +kernel
theorem dX7_flows_31 : decode cX7_flows 31 = .ok (.iload_n 2, 1) := by decide +kernel
theorem dX7_flows_32 : decode cX7_flows 32 = .ok (.if_icmp .ge 7, 3) := by decide +kernel
theorem dX7_flows_35 : decode cX7_flows 35 = .ok (.iload_n 3, 1) := by decide +kernel
theorem dX7_flows_36 : decode cX7_flows 36 = .ok (.goto 4, 3) := by decide +kernel
theorem dX7_flows_39 : decode cX7_flows 39 = .ok (.iload_n 2, 1) := by decide +kernel
theorem dX7_flows_40 : decode cX7_flows 40 = .ok (.istore 4, 2) := by decide +kernel
theorem dX7_flows_42 : decode cX7_flows 42 = .ok (.aload_n 0, 1) := by decide +kernel
theorem dX7_flows_43 : decode cX7_flows 43 = .ok (.iload_n 1, 1) := by decide +kernel
theorem dX7_flows_44 : decode cX7_flows 44 = .ok (.iload_n 1, 1) := by decide +kernel
theorem dX7_flows_45 : decode cX7_flows 45 = .ok (.iconst 1, 1) := by decide +kernel
theorem dX7_flows_46 : decode cX7_flows 46 = .ok (.iadd, 1) := by decide +kernel
theorem dX7_flows_47 : decode cX7_flows 47 = .ok (.invokevirtual 51, 3) := by decide +kernel
theorem dX7_flows_50 : decode cX7_flows 50 = .ok (.ifCond .ge 9, 3) := by decide +kernel
theorem dX7_flows_53 : decode cX7_flows 53 = .ok (.iload 4, 2) := by decide +kernel
theorem dX7_flows_55 : decode cX7_flows 55 = .ok (.ineg, 1) := by decide +kernel
theorem dX7_flows_56 : decode cX7_flows 56 = .ok (.goto 5, 3) := by decide +kernel
theorem dX7_flows_59 : decode cX7_flows 59 = .ok (.iload 4, 2) := by decide +kernel
theorem dX7_flows_61 : decode cX7_flows 61 = .ok (.ireturn, 1) := by decide +kernel
theorem dX7_happens_0 : decode cX7_happens 0 = .ok (.bipush 15, 2) := by decide +kernel
theorem dX7_happens_2 : decode cX7_happens 2 = .ok (.istore_n 3, 1) := by decide +kernel
theorem dX7_happens_3 : decode cX7_happens 3 = .ok (.iload_n 3, 1) := by decide +kernel
theorem dX7_happens_4 : decode cX7_happens 4 = .ok (.iconst 1, 1) := by decide +kernel
theorem dX7_happens_5 : decode cX7_happens 5 = .ok (.if_icmp .le 29, 3) := by decide +kernel
theorem dX7_happens_8 : decode cX7_happens 8 = .ok (.aload_n 0, 1) := by decide +kernel
theorem dX7_happens_9 : decode cX7_happens 9 = .ok (.getfield 9, 3) := by decide +kernel
theorem dX7_happens_12 : decode cX7_happens 12 = .ok (.bipush 24, 2) := by decide +kernel
theorem dX7_happens_14 : decode cX7_happens 14 = .ok (.iload_n 3, 1) := by decide +kernel
theorem dX7_happens_15 : decode cX7_happens 15 = .ok (.iadd, 1) := by decide +kernel
theorem dX7_happens_16 : decode cX7_happens 16 = .ok (.aload_n 0, 1) := by decide +kernel
theorem dX7_happens_17 : decode cX7_happens 17 = .ok (.getfield 9, 3) := by decide +kernel
theorem dX7_happens_20 : decode cX7_happens 20 = .ok (.bipush 24, 2) := by decide +kernel
theorem dX7_happens_22 : decode cX7_happens 22 = .ok (.iload_n 3, 1) := by decide +kernel
theorem dX7_happens_23 : decode cX7_happens 23 = .ok (.iadd, 1) := by decide +kernel
theorem dX7_happens_24 : decode cX7_happens 24 = .ok (.iconst 2, 1) := by decide +kernel
theorem dX7_happens_25 : decode cX7_happens 25 = .ok (.isub, 1) := by decide +kernel
theorem dX7_happens_26 : decode cX7_happens 26 = .ok (.iaload, 1) := by decide +kernel
theorem dX7_happens_27 : decode cX7_happens 27 = .ok (.iastore, 1) := by decide +kernel
theorem dX7_happens_28 : decode cX7_happens 28 = .ok (.iinc 3 (-1), 3) := by decide +kernel
theorem dX7_happens_31 : decode cX7_happens 31 = .ok (.goto (-28), 3) := by decide +kernel
theorem dX7_happens_34 : decode cX7_happens 34 = .ok (.aload_n 0, 1) := by decide +kernel
theorem dX7_happens_35 : decode cX7_happens 35 = .ok (.getfield 9, 3) := by decide +kernel
theorem dX7_happens_38 : decode cX7_happens 38 = .ok (.bipush 24, 2) := by decide +kernel
theorem dX7_happens_40 : decode cX7_happens 40 = .ok (.iload_n 1, 1) := by decide +kernel
theorem dX7_happens_41 : decode cX7_happens 41 = .ok (.iastore, 1) := by decide +kernel
theorem dX7_happens_42 : decode cX7_happens 42 = .ok (.aload_n 0, 1) := by decide +kernel
theorem dX7_happens_43 : decode cX7_happens 43 = .ok (.getfield 9, 3) := by decide +kernel
theorem dX7_happens_46 : decode cX7_happens 46 = .ok (.bipush 25, 2) := by decide +kernel
theorem dX7_happens_48 : decode cX7_happens 48 = .ok (.iload_n 2, 1) := by decide +kernel
theorem dX7_happens_49 : decode cX7_happens 49 = .ok (.iastore, 1) := by decide +kernel
theorem dX7_happens_50 : decode cX7_happens 50 = .ok (.aload_n 0, 1) := by decide +kernel
theorem dX7_happens_51 : decode cX7_happens 51 = .ok (.getfield 9, 3) := by decide +kernel
theorem dX7_happens_54 : decode cX7_happens 54 = .ok (.bipush 7, 2) := by decide +kernel
theorem dX7_happens_56 : decode cX7_happens 56 = .ok (.aload_n 0, 1) := by decide +kernel
theorem dX7_happens_57 : decode cX7_happens 57 = .ok (.getfield 9, 3) := by decide +kernel
theorem dX7_happens_60 : decode cX7_happens 60 = .ok (.bipush 7, 2) := by decide +kernel
theorem dX7_happens_62 : decode cX7_happens 62 = .ok (.iaload, 1) := by decide +kernel
theorem dX7_happens_63 : decode cX7_happens 63 = .ok (.bipush 8, 2) := by decide +kernel
theorem dX7_happens_65 : decode cX7_happens 65 = .ok (.if_icmp .ge 15, 3) := by decide +kernel
theorem dX7_happens_68 : decode cX7_happens 68 = .ok (.aload_n 0, 1) := by decide +kernel
theorem dX7_happens_69 : decode cX7_happens 69 = .ok (.getfield 9, 3) := by decide +kernel
theorem dX7_happens_72 : decode cX7_happens 72 = .ok (.bipush 7, 2) := by decide +kernel
theorem dX7_happens_74 : decode cX7_happens 74 = .ok (.iaload, 1) := by decide +kernel
theorem dX7_happens_75 : decode cX7_happens 75 = .ok (.iconst 1, 1) := by decide +kernel
theorem dX7_happens_76 : decode cX7_happens 76 = .ok (.iadd, 1) := by decide +kernel
theorem dX7_happens_77 : decode cX7_happens 77 = .ok (.goto 5, 3) := by decide +kernel
theorem dX7_happens_80 : decode cX7_happens 80 = .ok (.bipush 8, 2) := by decide +kernel
theorem dX7_happens_82 : decode cX7_happens 82 = .ok (.iastore, 1) := by decide +kernel
theorem dX7_happens_83 : decode cX7_happens 83 = .ok (.return_, 1) := by decide +kernel
theorem dX7_rains_0 : decode cX7_rains 0 = .ok (.aload_n 0, 1) := by decide +kernel
theorem dX7_rains_1 : decode cX7_rains 1 = .ok (.getfield 9, 3) := by decide +kernel
theorem dX7_rains_4 : decode cX7_rains 4 = .ok (.iconst 3, 1) := by decide +kernel
theorem dX7_rains_5 : decode cX7_rains 5 = .ok (.dup2, 1) := by decide +kernel
theorem dX7_rains_6 : decode cX7_rains 6 = .ok (.iaload, 1) := by decide +kernel
theorem dX7_rains_7 : decode cX7_rains 7 = .ok (.aload_n 0, 1) := by decide +kernel
theorem dX7_rains_8 : decode cX7_rains 8 = .ok (.getfield 9, 3) := by decide +kernel
theorem dX7_rains_11 : decode cX7_rains 11 = .ok (.iconst 1, 1) := by decide +kernel
theorem dX7_rains_12 : decode cX7_rains 12 = .ok (.iaload, 1) := by decide +kernel
theorem dX7_rains_13 : decode cX7_rains 13 = .ok (.iadd, 1) := by decide +kernel
theorem dX7_rains_14 : decode cX7_rains 14 = .ok (.iastore, 1) := by decide +kernel
theorem dX7_rains_15 : decode cX7_rains 15 = .ok (.aload_n 0, 1) := by decide +kernel
theorem dX7_rains_16 : decode cX7_rains 16 = .ok (.getfield 9, 3) := by decide +kernel
theorem dX7_rains_19 : decode cX7_rains 19 = .ok (.bipush 11, 2) := by decide +kernel
theorem dX7_rains_21 : decode cX7_rains 21 = .ok (.dup2, 1) := by decide +kernel
theorem dX7_rains_22 : decode cX7_rains 22 = .ok (.iaload, 1) := by decide +kernel
theorem dX7_rains_23 : decode cX7_rains 23 = .ok (.aload_n 0, 1) := by decide +kernel
theorem dX7_rains_24 : decode cX7_rains 24 = .ok (.getfield 9, 3) := by decide +kernel
theorem dX7_rains_27 : decode cX7_rains 27 = .ok (.iconst 1, 1) := by decide +kernel
theorem dX7_rains_28 : decode cX7_rains 28 = .ok (.iaload, 1) := by decide +kernel
theorem dX7_rains_29 : decode cX7_rains 29 = .ok (.iadd, 1) := by decide +kernel
theorem dX7_rains_30 : decode cX7_rains 30 = .ok (.iastore, 1) := by decide +kernel
theorem dX7_rains_31 : decode cX7_rains 31 = .ok (.aload_n 0, 1) := by decide +kernel
theorem dX7_rains_32 : decode cX7_rains 32 = .ok (.getfield 9, 3) := by decide +kernel
theorem dX7_rains_35 : decode cX7_rains 35 = .ok (.bipush 11, 2) := by decide +kernel
theorem dX7_rains_37 : decode cX7_rains 37 = .ok (.iaload, 1) := by decide +kernel
theorem dX7_rains_38 : decode cX7_rains 38 = .ok (.bipush 40, 2) := by decide +kernel
theorem dX7_rains_40 : decode cX7_rains 40 = .ok (.iconst 0, 1) := by decide +kernel
theorem dX7_rains_41 : decode cX7_rains 41 = .ok (.invokestatic 47, 3) := by decide +kernel
theorem dX7_rains_44 : decode cX7_rains 44 = .ok (.imul, 1) := by decide +kernel
theorem dX7_rains_45 : decode cX7_rains 45 = .ok (.isub, 1) := by decide +kernel
theorem dX7_rains_46 : decode cX7_rains 46 = .ok (.istore_n 1, 1) := by decide +kernel
theorem dX7_rains_47 : decode cX7_rains 47 = .ok (.iload_n 1, 1) := by decide +kernel
theorem dX7_rains_48 : decode cX7_rains 48 = .ok (.ifCond .le 31, 3) := by decide +kernel
theorem dX7_rains_51 : decode cX7_rains 51 = .ok (.aload_n 0, 1) := by decide +kernel
theorem dX7_rains_52 : decode cX7_rains 52 = .ok (.getfield 9, 3) := by decide +kernel
theorem dX7_rains_55 : decode cX7_rains 55 = .ok (.bipush 11, 2) := by decide +kernel
theorem dX7_rains_57 : decode cX7_rains 57 = .ok (.dup2, 1) := by decide +kernel
theorem dX7_rains_58 : decode cX7_rains 58 = .ok (.iaload, 1) := by decide +kernel
theorem dX7_rains_59 : decode cX7_rains 59 = .ok (.iload_n 1, 1) := by decide +kernel
theorem dX7_rains_60 : decode cX7_rains 60 = .ok (.isub, 1) := by decide +kernel
theorem dX7_rains_61 : decode cX7_rains 61 = .ok (.iastore, 1) := by decide +kernel
theorem dX7_rains_62 : decode cX7_rains 62 = .ok (.aload_n 0, 1) := by decide +kernel
theorem dX7_rains_63 : decode cX7_rains 63 = .ok (.getfield 9, 3) := by decide +kernel
theorem dX7_rains_66 : decode cX7_rains 66 = .ok (.iconst 5, 1) := by decide +kernel
theorem dX7_rains_67 : decode cX7_rains 67 = .ok (.dup2, 1) := by decide +kernel
theorem dX7_rains_68 : decode cX7_rains 68 = .ok (.iaload, 1) := by decide +kernel
theorem dX7_rains_69 : decode cX7_rains 69 = .ok (.iload_n 1, 1) := by decide +kernel
theorem dX7_rains_70 : decode cX7_rains 70 = .ok (.iadd, 1) := by decide +kernel
theorem dX7_rains_71 : decode cX7_rains 71 = .ok (.iastore, 1) := by decide +kernel
theorem dX7_rains_72 : decode cX7_rains 72 = .ok (.aload_n 0, 1) := by decide +kernel
theorem dX7_rains_73 : decode cX7_rains 73 = .ok (.bipush 115, 2) := by decide +kernel
theorem dX7_rains_75 : decode cX7_rains 75 = .ok (.iload_n 1, 1) := by decide +kernel
theorem dX7_rains_76 : decode cX7_rains 76 = .ok (.invokevirtual 58, 3) := by decide +kernel
theorem dX7_rains_79 : decode cX7_rains 79 = .ok (.bipush 15, 2) := by decide +kernel
theorem dX7_rains_81 : decode cX7_rains 81 = .ok (.istore_n 2, 1) := by decide +kernel
theorem dX7_rains_82 : decode cX7_rains 82 = .ok (.aload_n 0, 1) := by decide +kernel
theorem dX7_rains_83 : decode cX7_rains 83 = .ok (.getfield 9, 3) := by decide +kernel
theorem dX7_rains_86 : decode cX7_rains 86 = .ok (.iconst 2, 1) := by decide +kernel
theorem dX7_rains_87 : decode cX7_rains 87 = .ok (.iaload, 1) := by decide +kernel
theorem dX7_rains_88 : decode cX7_rains 88 = .ok (.aload_n 0, 1) := by decide +kernel
theorem dX7_rains_89 : decode cX7_rains 89 = .ok (.getfield 9, 3) := by decide +kernel
theorem dX7_rains_92 : decode cX7_rains 92 = .ok (.iload_n 2, 1) := by decide +kernel
theorem dX7_rains_93 : decode cX7_rains 93 = .ok (.iaload, 1) := by decide +kernel
theorem dX7_rains_94 : decode cX7_rains 94 = .ok (.if_icmp .ge 12, 3) := by decide +kernel
theorem dX7_rains_97 : decode cX7_rains 97 = .ok (.aload_n 0, 1) := by decide +kernel
theorem dX7_rains_98 : decode cX7_rains 98 = .ok (.getfield 9, 3) := by decide +kernel
theorem dX7_rains_101 : decode cX7_rains 101 = .ok (.iconst 2, 1) := by decide +kernel
theorem dX7_rains_102 : decode cX7_rains 102 = .ok (.iaload, 1) := by decide +kernel
theorem dX7_rains_103 : decode cX7_rains 103 = .ok (.goto 9, 3) := by decide +kernel
theorem dX7_rains_106 : decode cX7_rains 106 = .ok (.aload_n 0, 1) := by decide +kernel
theorem dX7_rains_107 : decode cX7_rains 107 = .ok (.getfield 9, 3) := by decide +kernel
theorem dX7_rains_110 : decode cX7_rains 110 = .ok (.iload_n 2, 1) := by decide +kernel
theorem dX7_rains_111 : decode cX7_rains 111 = .ok (.iaload, 1) := by decide +kernel
theorem dX7_rains_112 : decode cX7_rains 112 = .ok (.istore_n 3, 1) := by decide +kernel
theorem dX7_rains_113 : decode cX7_rains 113 = .ok (.aload_n 0, 1) := by decide +kernel
theorem dX7_rains_114 : decode cX7_rains 114 = .ok (.getfield 9, 3) := by decide +kernel
theorem dX7_rains_117 : decode cX7_rains 117 = .ok (.iload_n 2, 1) := by decide +kernel
theorem dX7_rains_118 : decode cX7_rains 118 = .ok (.dup2, 1) := by decide +kernel
theorem dX7_rains_119 : decode cX7_rains 119 = .ok (.iaload, 1) := by decide +kernel
theorem dX7_rains_120 : decode cX7_rains 120 = .ok (.iload_n 3, 1) := by decide +kernel
theorem dX7_rains_121 : decode cX7_rains 121 = .ok (.isub, 1) := by decide +kernel
theorem dX7_rains_122 : decode cX7_rains 122 = .ok (.iastore, 1) := by decide +kernel
theorem dX7_rains_123 : decode cX7_rains 123 = .ok (.aload_n 0, 1) := by decide +kernel
theorem dX7_rains_124 : decode cX7_rains 124 = .ok (.getfield 9, 3) := by decide +kernel
theorem dX7_rains_127 : decode cX7_rains 127 = .ok (.iconst 4, 1) := by decide +kernel
theorem dX7_rains_128 : decode cX7_rains 128 = .ok (.dup2, 1) := by decide +kernel
theorem dX7_rains_129 : decode cX7_rains 129 = .ok (.iaload, 1) := by decide +kernel
theorem dX7_rains_130 : decode cX7_rains 130 = .ok (.iload_n 3, 1) := by decide +kernel
theorem dX7_rains_131 : decode cX7_rains 131 = .ok (.iadd, 1) := by decide +kernel
theorem dX7_rains_132 : decode cX7_rains 132 = .ok (.iastore, 1) := by decide +kernel
theorem dX7_rains_133 : decode cX7_rains 133 = .ok (.return_, 1) := by decide +kernel
theorem dX7_b_0 : decode cX7_b 0 = .ok (.aload_n 0, 1) := by decide +kernel
theorem dX7_b_1 : decode cX7_b 1 = .ok (.getfield 9, 3) := by decide +kernel
theorem dX7_b_4 : decode cX7_b 4 = .ok (.bipush 40, 2) := by decide +kernel
theorem dX7_b_6 : decode cX7_b 6 = .ok (.iconst 5, 1) := by decide +kernel
theorem dX7_b_7 : decode cX7_b 7 = .ok (.iload_n 1, 1) := by decide +kernel
theorem dX7_b_8 : decode cX7_b 8 = .ok (.imul, 1) := by decide +kernel
theorem dX7_b_9 : decode cX7_b 9 = .ok (.iadd, 1) := by decide +kernel
theorem dX7_b_10 : decode cX7_b 10 = .ok (.iload_n 2, 1) := by decide +kernel
theorem dX7_b_11 : decode cX7_b 11 = .ok (.iadd, 1) := by decide +kernel
theorem dX7_b_12 : decode cX7_b 12 = .ok (.iaload, 1) := by decide +kernel
theorem dX7_b_13 : decode cX7_b 13 = .ok (.ireturn, 1) := by decide +kernel
theorem dX7_set_0 : decode cX7_set 0 = .ok (.aload_n 0, 1) := by decide +kernel
theorem dX7_set_1 : decode cX7_set 1 = .ok (.getfield 9, 3) := by decide +kernel
theorem dX7_set_4 : decode cX7_set 4 = .ok (.bipush 40, 2) := by decide +kernel
theorem dX7_set_6 : decode cX7_set 6 = .ok (.iconst 5, 1) := by decide +kernel
theorem dX7_set_7 : decode cX7_set 7 = .ok (.iload_n 1, 1) := by decide +kernel
theorem dX7_set_8 : decode cX7_set 8 = .ok (.imul, 1) := by decide +kernel
theorem dX7_set_9 : decode cX7_set 9 = .ok (.iadd, 1) := by decide +kernel
theorem dX7_set_10 : decode cX7_set 10 = .ok (.iload_n 2, 1) := by decide +kernel
theorem dX7_set_11 : decode cX7_set 11 = .ok (.iadd, 1) := by decide +kernel
theorem dX7_set_12 : decode cX7_set 12 = .ok (.iload_n 3, 1) := by decide +kernel
theorem dX7_set_13 : decode cX7_set 13 = .ok (.iastore, 1) := by decide +kernel
theorem dX7_set_14 : decode cX7_set 14 = .ok (.return_, 1) := by decide +kernel
theorem dX7_isBoat_0 : decode cX7_isBoat 0 = .ok (.iload_n 1, 1) := by decide +kernel
theorem dX7_isBoat_1 : decode cX7_isBoat 1 = .ok (.iconst 0, 1) := by decide +kernel
theorem dX7_isBoat_2 : decode cX7_isBoat 2 = .ok (.aload_n 0, 1) := by decide +kernel
theorem dX7_isBoat_3 : decode cX7_isBoat 3 = .ok (.getfield 9, 3) := by decide +kernel
theorem dX7_isBoat_6 : decode cX7_isBoat 6 = .ok (.bipush 6, 2) := by decide +kernel
theorem dX7_isBoat_8 : decode cX7_isBoat 8 = .ok (.iaload, 1) := by decide +kernel
theorem dX7_isBoat_9 : decode cX7_isBoat 9 = .ok (.iconst 1, 1) := by decide +kernel
theorem dX7_isBoat_10 : decode cX7_isBoat 10 = .ok (.isub, 1) := by decide +kernel
theorem dX7_isBoat_11 : decode cX7_isBoat 11 = .ok (.invokestatic 43, 3) := by decide +kernel
theorem dX7_isBoat_14 : decode cX7_isBoat 14 = .ok (.ireturn, 1) := by decide +kernel
theorem dX7_inBasin_0 : decode cX7_inBasin 0 = .ok (.iconst 0, 1) := by decide +kernel
theorem dX7_inBasin_1 : decode cX7_inBasin 1 = .ok (.istore_n 2, 1) := by decide +kernel
theorem dX7_inBasin_2 : decode cX7_inBasin 2 = .ok (.iconst 0, 1) := by decide +kernel
theorem dX7_inBasin_3 : decode cX7_inBasin 3 = .ok (.istore_n 3, 1) := by decide +kernel
theorem dX7_inBasin_4 : decode cX7_inBasin 4 = .ok (.iload_n 3, 1) := by decide +kernel
theorem dX7_inBasin_5 : decode cX7_inBasin 5 = .ok (.aload_n 0, 1) := by decide +kernel
theorem dX7_inBasin_6 : decode cX7_inBasin 6 = .ok (.getfield 9, 3) := by decide +kernel
theorem dX7_inBasin_9 : decode cX7_inBasin 9 = .ok (.bipush 6, 2) := by decide +kernel
theorem dX7_inBasin_11 : decode cX7_inBasin 11 = .ok (.iaload, 1) := by decide +kernel
theorem dX7_inBasin_12 : decode cX7_inBasin 12 = .ok (.if_icmp .ge 27, 3) := by decide +kernel
theorem dX7_inBasin_15 : decode cX7_inBasin 15 = .ok (.iload_n 2, 1) := by decide +kernel
theorem dX7_inBasin_16 : decode cX7_inBasin 16 = .ok (.aload_n 0, 1) := by decide +kernel
theorem dX7_inBasin_17 : decode cX7_inBasin 17 = .ok (.iload_n 3, 1) := by decide +kernel
theorem dX7_inBasin_18 : decode cX7_inBasin 18 = .ok (.iconst 3, 1) := by decide +kernel
theorem dX7_inBasin_19 : decode cX7_inBasin 19 = .ok (.invokevirtual 61, 3) := by decide +kernel
theorem dX7_inBasin_22 : decode cX7_inBasin 22 = .ok (.iload_n 1, 1) := by decide +kernel
theorem dX7_inBasin_23 : decode cX7_inBasin 23 = .ok (.if_icmp .ne 7, 3) := by decide +kernel
theorem dX7_inBasin_26 : decode cX7_inBasin 26 = .ok (.iconst 1, 1) := by decide +kernel
theorem dX7_inBasin_27 : decode cX7_inBasin 27 = .ok (.goto 4, 3) := by decide +kernel
theorem dX7_inBasin_30 : decode cX7_inBasin 30 = .ok (.iconst 0, 1) := by decide +kernel
theorem dX7_inBasin_31 : decode cX7_inBasin 31 = .ok (.iadd, 1) := by decide +kernel
theorem dX7_inBasin_32 : decode cX7_inBasin 32 = .ok (.istore_n 2, 1) := by decide +kernel
theorem dX7_inBasin_33 : decode cX7_inBasin 33 = .ok (.iinc 3 1, 3) := by decide +kernel
theorem dX7_inBasin_36 : decode cX7_inBasin 36 = .ok (.goto (-32), 3) := by decide +kernel
theorem dX7_inBasin_39 : decode cX7_inBasin 39 = .ok (.iload_n 2, 1) := by decide +kernel
theorem dX7_inBasin_40 : decode cX7_inBasin 40 = .ok (.ireturn, 1) := by decide +kernel
theorem dX7_isDeep_0 : decode cX7_isDeep 0 = .ok (.aload_n 0, 1) := by decide +kernel
theorem dX7_isDeep_1 : decode cX7_isDeep 1 = .ok (.getfield 9, 3) := by decide +kernel
theorem dX7_isDeep_4 : decode cX7_isDeep 4 = .ok (.bipush 11, 2) := by decide +kernel
theorem dX7_isDeep_6 : decode cX7_isDeep 6 = .ok (.iload_n 1, 1) := by decide +kernel
theorem dX7_isDeep_7 : decode cX7_isDeep 7 = .ok (.iadd, 1) := by decide +kernel
theorem dX7_isDeep_8 : decode cX7_isDeep 8 = .ok (.iaload, 1) := by decide +kernel
theorem dX7_isDeep_9 : decode cX7_isDeep 9 = .ok (.iload_n 2, 1) := by decide +kernel
theorem dX7_isDeep_10 : decode cX7_isDeep 10 = .ok (.iload_n 1, 1) := by decide +kernel
theorem dX7_isDeep_11 : decode cX7_isDeep 11 = .ok (.invokestatic 47, 3) := by decide +kernel
theorem dX7_isDeep_14 : decode cX7_isDeep 14 = .ok (.imul, 1) := by decide +kernel
theorem dX7_isDeep_15 : decode cX7_isDeep 15 = .ok (.if_icmp .lt 7, 3) := by decide +kernel
theorem dX7_isDeep_18 : decode cX7_isDeep 18 = .ok (.iconst 1, 1) := by decide +kernel
theorem dX7_isDeep_19 : decode cX7_isDeep 19 = .ok (.goto 4, 3) := by decide +kernel
theorem dX7_isDeep_22 : decode cX7_isDeep 22 = .ok (.iconst 0, 1) := by decide +kernel
theorem dX7_isDeep_23 : decode cX7_isDeep 23 = .ok (.ireturn, 1) := by decide +kernel
theorem dX7_leaves_0 : decode cX7_leaves 0 = .ok (.aload_n 0, 1) := by decide +kernel
theorem dX7_leaves_1 : decode cX7_leaves 1 = .ok (.getfield 9, 3) := by decide +kernel
theorem dX7_leaves_4 : decode cX7_leaves 4 = .ok (.bipush 6, 2) := by decide +kernel
theorem dX7_leaves_6 : decode cX7_leaves 6 = .ok (.iaload, 1) := by decide +kernel
theorem dX7_leaves_7 : decode cX7_leaves 7 = .ok (.iconst 1, 1) := by decide +kernel
theorem dX7_leaves_8 : decode cX7_leaves 8 = .ok (.isub, 1) := by decide +kernel
theorem dX7_leaves_9 : decode cX7_leaves 9 = .ok (.istore_n 2, 1) := by decide +kernel
theorem dX7_leaves_10 : decode cX7_leaves 10 = .ok (.iconst 5, 1) := by decide +kernel
theorem dX7_leaves_11 : decode cX7_leaves 11 = .ok (.iload_n 1, 1) := by decide +kernel
theorem dX7_leaves_12 : decode cX7_leaves 12 = .ok (.imul, 1) := by decide +kernel
theorem dX7_leaves_13 : decode cX7_leaves 13 = .ok (.istore_n 3, 1) := by decide +kernel
theorem dX7_leaves_14 : decode cX7_leaves 14 = .ok (.iload_n 3, 1) := by decide +kernel
theorem dX7_leaves_15 : decode cX7_leaves 15 = .ok (.iconst 5, 1) := by decide +kernel
theorem dX7_leaves_16 : decode cX7_leaves 16 = .ok (.iload_n 2, 1) := by decide +kernel
theorem dX7_leaves_17 : decode cX7_leaves 17 = .ok (.imul, 1) := by decide +kernel
theorem dX7_leaves_18 : decode cX7_leaves 18 = .ok (.if_icmp .ge 29, 3) := by decide +kernel
theorem dX7_leaves_21 : decode cX7_leaves 21 = .ok (.aload_n 0, 1) := by decide +kernel
theorem dX7_leaves_22 : decode cX7_leaves 22 = .ok (.getfield 9, 3) := by decide +kernel
theorem dX7_leaves_25 : decode cX7_leaves 25 = .ok (.bipush 40, 2) := by decide +kernel
theorem dX7_leaves_27 : decode cX7_leaves 27 = .ok (.iload_n 3, 1) := by decide +kernel
theorem dX7_leaves_28 : decode cX7_leaves 28 = .ok (.iadd, 1) := by decide +kernel
theorem dX7_leaves_29 : decode cX7_leaves 29 = .ok (.aload_n 0, 1) := by decide +kernel
theorem dX7_leaves_30 : decode cX7_leaves 30 = .ok (.getfield 9, 3) := by decide +kernel
theorem dX7_leaves_33 : decode cX7_leaves 33 = .ok (.bipush 40, 2) := by decide +kernel
theorem dX7_leaves_35 : decode cX7_leaves 35 = .ok (.iload_n 3, 1) := by decide +kernel
theorem dX7_leaves_36 : decode cX7_leaves 36 = .ok (.iadd, 1) := by decide +kernel
theorem dX7_leaves_37 : decode cX7_leaves 37 = .ok (.iconst 5, 1) := by decide +kernel
theorem dX7_leaves_38 : decode cX7_leaves 38 = .ok (.iadd, 1) := by decide +kernel
theorem dX7_leaves_39 : decode cX7_leaves 39 = .ok (.iaload, 1) := by decide +kernel
theorem dX7_leaves_40 : decode cX7_leaves 40 = .ok (.iastore, 1) := by decide +kernel
theorem dX7_leaves_41 : decode cX7_leaves 41 = .ok (.iinc 3 1, 3) := by decide +kernel
theorem dX7_leaves_44 : decode cX7_leaves 44 = .ok (.goto (-30), 3) := by decide +kernel
theorem dX7_leaves_47 : decode cX7_leaves 47 = .ok (.iconst 0, 1) := by decide +kernel
theorem dX7_leaves_48 : decode cX7_leaves 48 = .ok (.istore_n 3, 1) := by decide +kernel
theorem dX7_leaves_49 : decode cX7_leaves 49 = .ok (.iload_n 3, 1) := by decide +kernel
theorem dX7_leaves_50 : decode cX7_leaves 50 = .ok (.iconst 5, 1) := by decide +kernel
theorem dX7_leaves_51 : decode cX7_leaves 51 = .ok (.if_icmp .ge 16, 3) := by decide +kernel
theorem dX7_leaves_54 : decode cX7_leaves 54 = .ok (.aload_n 0, 1) := by decide +kernel
theorem dX7_leaves_55 : decode cX7_leaves 55 = .ok (.iload_n 2, 1) := by decide +kernel
theorem dX7_leaves_56 : decode cX7_leaves 56 = .ok (.iload_n 3, 1) := by decide +kernel
theorem dX7_leaves_57 : decode cX7_leaves 57 = .ok (.iconst 0, 1) := by decide +kernel
theorem dX7_leaves_58 : decode cX7_leaves 58 = .ok (.invokevirtual 64, 3) := by decide +kernel
theorem dX7_leaves_61 : decode cX7_leaves 61 = .ok (.iinc 3 1, 3) := by decide +kernel
theorem dX7_leaves_64 : decode cX7_leaves 64 = .ok (.goto (-15), 3) := by decide +kernel
theorem dX7_leaves_67 : decode cX7_leaves 67 = .ok (.aload_n 0, 1) := by decide +kernel
theorem dX7_leaves_68 : decode cX7_leaves 68 = .ok (.getfield 9, 3) := by decide +kernel
theorem dX7_leaves_71 : decode cX7_leaves 71 = .ok (.bipush 6, 2) := by decide +kernel
theorem dX7_leaves_73 : decode cX7_leaves 73 = .ok (.iload_n 2, 1) := by decide +kernel
theorem dX7_leaves_74 : decode cX7_leaves 74 = .ok (.iastore, 1) := by decide +kernel
theorem dX7_leaves_75 : decode cX7_leaves 75 = .ok (.return_, 1) := by decide +kernel
theorem dX7_passes_0 : decode cX7_passes 0 = .ok (.aload_n 0, 1) := by decide +kernel
theorem dX7_passes_1 : decode cX7_passes 1 = .ok (.iload_n 1, 1) := by decide +kernel
theorem dX7_passes_2 : decode cX7_passes 2 = .ok (.iconst 3, 1) := by decide +kernel
theorem dX7_passes_3 : decode cX7_passes 3 = .ok (.invokevirtual 61, 3) := by decide +kernel
theorem dX7_passes_6 : decode cX7_passes 6 = .ok (.istore_n 2, 1) := by decide +kernel
theorem dX7_passes_7 : decode cX7_passes 7 = .ok (.aload_n 0, 1) := by decide +kernel
theorem dX7_passes_8 : decode cX7_passes 8 = .ok (.iload_n 1, 1) := by decide +kernel
theorem dX7_passes_9 : decode cX7_passes 9 = .ok (.iconst 2, 1) := by decide +kernel
theorem dX7_passes_10 : decode cX7_passes 10 = .ok (.invokevirtual 61, 3) := by decide +kernel
theorem dX7_passes_13 : decode cX7_passes 13 = .ok (.iconst 1, 1) := by decide +kernel
theorem dX7_passes_14 : decode cX7_passes 14 = .ok (.if_icmp .ne 9, 3) := by decide +kernel
theorem dX7_passes_17 : decode cX7_passes 17 = .ok (.iload_n 2, 1) := by decide +kernel
theorem dX7_passes_18 : decode cX7_passes 18 = .ok (.iconst 1, 1) := by decide +kernel
theorem dX7_passes_19 : decode cX7_passes 19 = .ok (.iadd, 1) := by decide +kernel
theorem dX7_passes_20 : decode cX7_passes 20 = .ok (.goto 6, 3) := by decide +kernel
theorem dX7_passes_23 : decode cX7_passes 23 = .ok (.iload_n 2, 1) := by decide +kernel
theorem dX7_passes_24 : decode cX7_passes 24 = .ok (.iconst 1, 1) := by decide +kernel
theorem dX7_passes_25 : decode cX7_passes 25 = .ok (.isub, 1) := by decide +kernel
theorem dX7_passes_26 : decode cX7_passes 26 = .ok (.istore_n 3, 1) := by decide +kernel
theorem dX7_passes_27 : decode cX7_passes 27 = .ok (.aload_n 0, 1) := by decide +kernel
theorem dX7_passes_28 : decode cX7_passes 28 = .ok (.iload_n 1, 1) := by decide +kernel
theorem dX7_passes_29 : decode cX7_passes 29 = .ok (.iconst 2, 1) := by decide +kernel
theorem dX7_passes_30 : decode cX7_passes 30 = .ok (.invokevirtual 61, 3) := by decide +kernel
theorem dX7_passes_33 : decode cX7_passes 33 = .ok (.iconst 1, 1) := by decide +kernel
theorem dX7_passes_34 : decode cX7_passes 34 = .ok (.if_icmp .ne 7, 3) := by decide +kernel
theorem dX7_passes_37 : decode cX7_passes 37 = .ok (.iload_n 2, 1) := by decide +kernel
theorem dX7_passes_38 : decode cX7_passes 38 = .ok (.goto 4, 3) := by decide +kernel
theorem dX7_passes_41 : decode cX7_passes 41 = .ok (.iload_n 3, 1) := by decide +kernel
theorem dX7_passes_42 : decode cX7_passes 42 = .ok (.istore 4, 2) := by decide +kernel
theorem dX7_passes_44 : decode cX7_passes 44 = .ok (.iload_n 3, 1) := by decide +kernel
theorem dX7_passes_45 : decode cX7_passes 45 = .ok (.ifCond .eq 8, 3) := by decide +kernel
theorem dX7_passes_48 : decode cX7_passes 48 = .ok (.iload_n 3, 1) := by decide +kernel
theorem dX7_passes_49 : decode cX7_passes 49 = .ok (.iconst 4, 1) := by decide +kernel
theorem dX7_passes_50 : decode cX7_passes 50 = .ok (.if_icmp .ne 7, 3) := by decide +kernel
theorem dX7_passes_53 : decode cX7_passes 53 = .ok (.iconst 1, 1) := by decide +kernel
theorem dX7_passes_54 : decode cX7_passes 54 = .ok (.goto 4, 3) := by decide +kernel
theorem dX7_passes_57 : decode cX7_passes 57 = .ok (.iconst 0, 1) := by decide +kernel
theorem dX7_passes_58 : decode cX7_passes 58 = .ok (.istore 5, 2) := by decide +kernel
theorem dX7_passes_60 : decode cX7_passes 60 = .ok (.aload_n 0, 1) := by decide +kernel
theorem dX7_passes_61 : decode cX7_passes 61 = .ok (.getfield 9, 3) := by decide +kernel
theorem dX7_passes_64 : decode cX7_passes 64 = .ok (.bipush 20, 2) := by decide +kernel
theorem dX7_passes_66 : decode cX7_passes 66 = .ok (.iload 4, 2) := by decide +kernel
theorem dX7_passes_68 : decode cX7_passes 68 = .ok (.iadd, 1) := by decide +kernel
theorem dX7_passes_69 : decode cX7_passes 69 = .ok (.iaload, 1) := by decide +kernel
theorem dX7_passes_70 : decode cX7_passes 70 = .ok (.ifCond .eq 16, 3) := by decide +kernel
theorem dX7_passes_73 : decode cX7_passes 73 = .ok (.aload_n 0, 1) := by decide +kernel
theorem dX7_passes_74 : decode cX7_passes 74 = .ok (.getfield 68, 3) := by decide +kernel
theorem dX7_passes_77 : decode cX7_passes 77 = .ok (.iload 4, 2) := by decide +kernel
theorem dX7_passes_79 : decode cX7_passes 79 = .ok (.ishr, 1) := by decide +kernel
theorem dX7_passes_80 : decode cX7_passes 80 = .ok (.iconst 1, 1) := by decide +kernel
theorem dX7_passes_81 : decode cX7_passes 81 = .ok (.iand, 1) := by decide +kernel
theorem dX7_passes_82 : decode cX7_passes 82 = .ok (.iconst 1, 1) := by decide +kernel
theorem dX7_passes_83 : decode cX7_passes 83 = .ok (.if_icmp .ne 5, 3) := by decide +kernel
theorem dX7_passes_86 : decode cX7_passes 86 = .ok (.iconst 0, 1) := by decide +kernel
theorem dX7_passes_87 : decode cX7_passes 87 = .ok (.ireturn, 1) := by decide +kernel
theorem dX7_passes_88 : decode cX7_passes 88 = .ok (.iload 5, 2) := by decide +kernel
theorem dX7_passes_90 : decode cX7_passes 90 = .ok (.ifCond .ne 12, 3) := by decide +kernel
theorem dX7_passes_93 : decode cX7_passes 93 = .ok (.aload_n 0, 1) := by decide +kernel
theorem dX7_passes_94 : decode cX7_passes 94 = .ok (.iload_n 3, 1) := by decide +kernel
theorem dX7_passes_95 : decode cX7_passes 95 = .ok (.invokevirtual 71, 3) := by decide +kernel
theorem dX7_passes_98 : decode cX7_passes 98 = .ok (.iconst 1, 1) := by decide +kernel
theorem dX7_passes_99 : decode cX7_passes 99 = .ok (.if_icmp .gt 17, 3) := by decide +kernel
theorem dX7_passes_102 : decode cX7_passes 102 = .ok (.aload_n 0, 1) := by decide +kernel
theorem dX7_passes_103 : decode cX7_passes 103 = .ok (.iload_n 3, 1) := by decide +kernel
theorem dX7_passes_104 : decode cX7_passes 104 = .ok (.aload_n 0, 1) := by decide +kernel
theorem dX7_passes_105 : decode cX7_passes 105 = .ok (.iload_n 1, 1) := by decide +kernel
theorem dX7_passes_106 : decode cX7_passes 106 = .ok (.iconst 1, 1) := by decide +kernel
theorem dX7_passes_107 : decode cX7_passes 107 = .ok (.invokevirtual 61, 3) := by decide +kernel
theorem dX7_passes_110 : decode cX7_passes 110 = .ok (.invokevirtual 74, 3) := by decide +kernel
theorem dX7_passes_113 : decode cX7_passes 113 = .ok (.ifCond .ne 5, 3) := by decide +kernel
theorem dX7_passes_116 : decode cX7_passes 116 = .ok (.iconst 0, 1) := by decide +kernel
theorem dX7_passes_117 : decode cX7_passes 117 = .ok (.ireturn, 1) := by decide +kernel
theorem dX7_passes_118 : decode cX7_passes 118 = .ok (.aload_n 0, 1) := by decide +kernel
theorem dX7_passes_119 : decode cX7_passes 119 = .ok (.dup, 1) := by decide +kernel
theorem dX7_passes_120 : decode cX7_passes 120 = .ok (.getfield 68, 3) := by decide +kernel
theorem dX7_passes_123 : decode cX7_passes 123 = .ok (.iconst 1, 1) := by decide +kernel
theorem dX7_passes_124 : decode cX7_passes 124 = .ok (.iload 4, 2) := by decide +kernel
theorem dX7_passes_126 : decode cX7_passes 126 = .ok (.ishl, 1) := by decide +kernel
theorem dX7_passes_127 : decode cX7_passes 127 = .ok (.ior, 1) := by decide +kernel
theorem dX7_passes_128 : decode cX7_passes 128 = .ok (.putfield 68, 3) := by decide +kernel
theorem dX7_passes_131 : decode cX7_passes 131 = .ok (.iload 5, 2) := by decide +kernel
theorem dX7_passes_133 : decode cX7_passes 133 = .ok (.ifCond .ne 20, 3) := by decide +kernel
theorem dX7_passes_136 : decode cX7_passes 136 = .ok (.aload_n 0, 1) := by decide +kernel
theorem dX7_passes_137 : decode cX7_passes 137 = .ok (.iload_n 1, 1) := by decide +kernel
theorem dX7_passes_138 : decode cX7_passes 138 = .ok (.iconst 3, 1) := by decide +kernel
theorem dX7_passes_139 : decode cX7_passes 139 = .ok (.iload_n 3, 1) := by decide +kernel
theorem dX7_passes_140 : decode cX7_passes 140 = .ok (.invokevirtual 64, 3) := by decide +kernel
theorem dX7_passes_143 : decode cX7_passes 143 = .ok (.aload_n 0, 1) := by decide +kernel
theorem dX7_passes_144 : decode cX7_passes 144 = .ok (.bipush 112, 2) := by decide +kernel
theorem dX7_passes_146 : decode cX7_passes 146 = .ok (.iload 4, 2) := by decide +kernel
theorem dX7_passes_148 : decode cX7_passes 148 = .ok (.invokevirtual 58, 3) := by decide +kernel
theorem dX7_passes_151 : decode cX7_passes 151 = .ok (.iconst 0, 1) := by decide +kernel
theorem dX7_passes_152 : decode cX7_passes 152 = .ok (.ireturn, 1) := by decide +kernel
theorem dX7_passes_153 : decode cX7_passes 153 = .ok (.aload_n 0, 1) := by decide +kernel
theorem dX7_passes_154 : decode cX7_passes 154 = .ok (.getfield 9, 3) := by decide +kernel
theorem dX7_passes_157 : decode cX7_passes 157 = .ok (.bipush 8, 2) := by decide +kernel
theorem dX7_passes_159 : decode cX7_passes 159 = .ok (.aload_n 0, 1) := by decide +kernel
theorem dX7_passes_160 : decode cX7_passes 160 = .ok (.iload_n 1, 1) := by decide +kernel
theorem dX7_passes_161 : decode cX7_passes 161 = .ok (.iconst 0, 1) := by decide +kernel
theorem dX7_passes_162 : decode cX7_passes 162 = .ok (.invokevirtual 61, 3) := by decide +kernel
theorem dX7_passes_165 : decode cX7_passes 165 = .ok (.iadd, 1) := by decide +kernel
theorem dX7_passes_166 : decode cX7_passes 166 = .ok (.dup2, 1) := by decide +kernel
theorem dX7_passes_167 : decode cX7_passes 167 = .ok (.iaload, 1) := by decide +kernel
theorem dX7_passes_168 : decode cX7_passes 168 = .ok (.iconst 1, 1) := by decide +kernel
theorem dX7_passes_169 : decode cX7_passes 169 = .ok (.iadd, 1) := by decide +kernel
theorem dX7_passes_170 : decode cX7_passes 170 = .ok (.iastore, 1) := by decide +kernel
theorem dX7_passes_171 : decode cX7_passes 171 = .ok (.aload_n 0, 1) := by decide +kernel
theorem dX7_passes_172 : decode cX7_passes 172 = .ok (.bipush 108, 2) := by decide +kernel
theorem dX7_passes_174 : decode cX7_passes 174 = .ok (.aload_n 0, 1) := by decide +kernel
theorem dX7_passes_175 : decode cX7_passes 175 = .ok (.iload_n 1, 1) := by decide +kernel
theorem dX7_passes_176 : decode cX7_passes 176 = .ok (.iconst 1, 1) := by decide +kernel
theorem dX7_passes_177 : decode cX7_passes 177 = .ok (.invokevirtual 61, 3) := by decide +kernel
theorem dX7_passes_180 : decode cX7_passes 180 = .ok (.invokevirtual 58, 3) := by decide +kernel
theorem dX7_passes_183 : decode cX7_passes 183 = .ok (.aload_n 0, 1) := by decide +kernel
theorem dX7_passes_184 : decode cX7_passes 184 = .ok (.iload_n 1, 1) := by decide +kernel
theorem dX7_passes_185 : decode cX7_passes 185 = .ok (.invokevirtual 78, 3) := by decide +kernel
theorem dX7_passes_188 : decode cX7_passes 188 = .ok (.iconst 1, 1) := by decide +kernel
theorem dX7_passes_189 : decode cX7_passes 189 = .ok (.ireturn, 1) := by decide +kernel
theorem dX7_ticks_0 : decode cX7_ticks 0 = .ok (.iconst 0, 1) := by decide +kernel
theorem dX7_ticks_1 : decode cX7_ticks 1 = .ok (.istore_n 1, 1) := by decide +kernel
theorem dX7_ticks_2 : decode cX7_ticks 2 = .ok (.aload_n 0, 1) := by decide +kernel
theorem dX7_ticks_3 : decode cX7_ticks 3 = .ok (.getfield 9, 3) := by decide +kernel
theorem dX7_ticks_6 : decode cX7_ticks 6 = .ok (.iconst 0, 1) := by decide +kernel
theorem dX7_ticks_7 : decode cX7_ticks 7 = .ok (.dup2, 1) := by decide +kernel
theorem dX7_ticks_8 : decode cX7_ticks 8 = .ok (.iaload, 1) := by decide +kernel
theorem dX7_ticks_9 : decode cX7_ticks 9 = .ok (.iconst 1, 1) := by decide +kernel
theorem dX7_ticks_10 : decode cX7_ticks 10 = .ok (.iadd, 1) := by decide +kernel
theorem dX7_ticks_11 : decode cX7_ticks 11 = .ok (.iastore, 1) := by decide +kernel
theorem dX7_ticks_12 : decode cX7_ticks 12 = .ok (.aload_n 0, 1) := by decide +kernel
theorem dX7_ticks_13 : decode cX7_ticks 13 = .ok (.invokevirtual 82, 3) := by decide +kernel
theorem dX7_ticks_16 : decode cX7_ticks 16 = .ok (.iconst 0, 1) := by decide +kernel
theorem dX7_ticks_17 : decode cX7_ticks 17 = .ok (.istore_n 2, 1) := by decide +kernel
theorem dX7_ticks_18 : decode cX7_ticks 18 = .ok (.iload_n 2, 1) := by decide +kernel
theorem dX7_ticks_19 : decode cX7_ticks 19 = .ok (.iconst 4, 1) := by decide +kernel
theorem dX7_ticks_20 : decode cX7_ticks 20 = .ok (.if_icmp .ge 43, 3) := by decide +kernel
theorem dX7_ticks_23 : decode cX7_ticks 23 = .ok (.aload_n 0, 1) := by decide +kernel
theorem dX7_ticks_24 : decode cX7_ticks 24 = .ok (.iload_n 2, 1) := by decide +kernel
theorem dX7_ticks_25 : decode cX7_ticks 25 = .ok (.invokevirtual 85, 3) := by decide +kernel
theorem dX7_ticks_28 : decode cX7_ticks 28 = .ok (.istore_n 3, 1) := by decide +kernel
theorem dX7_ticks_29 : decode cX7_ticks 29 = .ok (.aload_n 0, 1) := by decide +kernel
theorem dX7_ticks_30 : decode cX7_ticks 30 = .ok (.getfield 9, 3) := by decide +kernel
theorem dX7_ticks_33 : decode cX7_ticks 33 = .ok (.bipush 11, 2) := by decide +kernel
theorem dX7_ticks_35 : decode cX7_ticks 35 = .ok (.iload_n 2, 1) := by decide +kernel
theorem dX7_ticks_36 : decode cX7_ticks 36 = .ok (.iadd, 1) := by decide +kernel
theorem dX7_ticks_37 : decode cX7_ticks 37 = .ok (.dup2, 1) := by decide +kernel
theorem dX7_ticks_38 : decode cX7_ticks 38 = .ok (.iaload, 1) := by decide +kernel
theorem dX7_ticks_39 : decode cX7_ticks 39 = .ok (.iload_n 3, 1) := by decide +kernel
theorem dX7_ticks_40 : decode cX7_ticks 40 = .ok (.isub, 1) := by decide +kernel
theorem dX7_ticks_41 : decode cX7_ticks 41 = .ok (.iastore, 1) := by decide +kernel
theorem dX7_ticks_42 : decode cX7_ticks 42 = .ok (.aload_n 0, 1) := by decide +kernel
theorem dX7_ticks_43 : decode cX7_ticks 43 = .ok (.getfield 9, 3) := by decide +kernel
theorem dX7_ticks_46 : decode cX7_ticks 46 = .ok (.bipush 11, 2) := by decide +kernel
theorem dX7_ticks_48 : decode cX7_ticks 48 = .ok (.iload_n 2, 1) := by decide +kernel
theorem dX7_ticks_49 : decode cX7_ticks 49 = .ok (.iadd, 1) := by decide +kernel
theorem dX7_ticks_50 : decode cX7_ticks 50 = .ok (.iconst 1, 1) := by decide +kernel
theorem dX7_ticks_51 : decode cX7_ticks 51 = .ok (.iadd, 1) := by decide +kernel
theorem dX7_ticks_52 : decode cX7_ticks 52 = .ok (.dup2, 1) := by decide +kernel
theorem dX7_ticks_53 : decode cX7_ticks 53 = .ok (.iaload, 1) := by decide +kernel
theorem dX7_ticks_54 : decode cX7_ticks 54 = .ok (.iload_n 3, 1) := by decide +kernel
theorem dX7_ticks_55 : decode cX7_ticks 55 = .ok (.iadd, 1) := by decide +kernel
theorem dX7_ticks_56 : decode cX7_ticks 56 = .ok (.iastore, 1) := by decide +kernel
theorem dX7_ticks_57 : decode cX7_ticks 57 = .ok (.iinc 2 1, 3) := by decide +kernel
theorem dX7_ticks_60 : decode cX7_ticks 60 = .ok (.goto (-42), 3) := by decide +kernel
theorem dX7_ticks_63 : decode cX7_ticks 63 = .ok (.aload_n 0, 1) := by decide +kernel
theorem dX7_ticks_64 : decode cX7_ticks 64 = .ok (.iconst 0, 1) := by decide +kernel
theorem dX7_ticks_65 : decode cX7_ticks 65 = .ok (.putfield 68, 3) := by decide +kernel
theorem dX7_ticks_68 : decode cX7_ticks 68 = .ok (.iconst 0, 1) := by decide +kernel
theorem dX7_ticks_69 : decode cX7_ticks 69 = .ok (.istore_n 2, 1) := by decide +kernel
theorem dX7_ticks_70 : decode cX7_ticks 70 = .ok (.iload_n 2, 1) := by decide +kernel
theorem dX7_ticks_71 : decode cX7_ticks 71 = .ok (.iconst 3, 1) := by decide +kernel
theorem dX7_ticks_72 : decode cX7_ticks 72 = .ok (.if_icmp .ge 74, 3) := by decide +kernel
theorem dX7_ticks_75 : decode cX7_ticks 75 = .ok (.iconst 0, 1) := by decide +kernel
theorem dX7_ticks_76 : decode cX7_ticks 76 = .ok (.istore_n 3, 1) := by decide +kernel
theorem dX7_ticks_77 : decode cX7_ticks 77 = .ok (.iload_n 3, 1) := by decide +kernel
theorem dX7_ticks_78 : decode cX7_ticks 78 = .ok (.aload_n 0, 1) := by decide +kernel
theorem dX7_ticks_79 : decode cX7_ticks 79 = .ok (.getfield 9, 3) := by decide +kernel
theorem dX7_ticks_82 : decode cX7_ticks 82 = .ok (.bipush 6, 2) := by decide +kernel
theorem dX7_ticks_84 : decode cX7_ticks 84 = .ok (.iaload, 1) := by decide +kernel
theorem dX7_ticks_85 : decode cX7_ticks 85 = .ok (.if_icmp .ge 55, 3) := by decide +kernel
theorem dX7_ticks_88 : decode cX7_ticks 88 = .ok (.aload_n 0, 1) := by decide +kernel
theorem dX7_ticks_89 : decode cX7_ticks 89 = .ok (.iload_n 3, 1) := by decide +kernel
theorem dX7_ticks_90 : decode cX7_ticks 90 = .ok (.iconst 0, 1) := by decide +kernel
theorem dX7_ticks_91 : decode cX7_ticks 91 = .ok (.invokevirtual 61, 3) := by decide +kernel
theorem dX7_ticks_94 : decode cX7_ticks 94 = .ok (.iload_n 2, 1) := by decide +kernel
theorem dX7_ticks_95 : decode cX7_ticks 95 = .ok (.if_icmp .eq 6, 3) := by decide +kernel
theorem dX7_ticks_98 : decode cX7_ticks 98 = .ok (.goto 36, 3) := by decide +kernel
theorem dX7_ticks_101 : decode cX7_ticks 101 = .ok (.aload_n 0, 1) := by decide +kernel
theorem dX7_ticks_102 : decode cX7_ticks 102 = .ok (.iload_n 3, 1) := by decide +kernel
theorem dX7_ticks_103 : decode cX7_ticks 103 = .ok (.invokevirtual 88, 3) := by decide +kernel
theorem dX7_ticks_106 : decode cX7_ticks 106 = .ok (.istore 4, 2) := by decide +kernel
theorem dX7_ticks_108 : decode cX7_ticks 108 = .ok (.iload_n 1, 1) := by decide +kernel
theorem dX7_ticks_109 : decode cX7_ticks 109 = .ok (.iload 4, 2) := by decide +kernel
theorem dX7_ticks_111 : decode cX7_ticks 111 = .ok (.ifCond .eq 7, 3) := by decide +kernel
theorem dX7_ticks_114 : decode cX7_ticks 114 = .ok (.iconst 1, 1) := by decide +kernel
theorem dX7_ticks_115 : decode cX7_ticks 115 = .ok (.goto 4, 3) := by decide +kernel
theorem dX7_ticks_118 : decode cX7_ticks 118 = .ok (.iconst 0, 1) := by decide +kernel
theorem dX7_ticks_119 : decode cX7_ticks 119 = .ok (.iadd, 1) := by decide +kernel
theorem dX7_ticks_120 : decode cX7_ticks 120 = .ok (.istore_n 1, 1) := by decide +kernel
theorem dX7_ticks_121 : decode cX7_ticks 121 = .ok (.iload_n 3, 1) := by decide +kernel
theorem dX7_ticks_122 : decode cX7_ticks 122 = .ok (.iload 4, 2) := by decide +kernel
theorem dX7_ticks_124 : decode cX7_ticks 124 = .ok (.ifCond .eq 7, 3) := by decide +kernel
theorem dX7_ticks_127 : decode cX7_ticks 127 = .ok (.iconst 1, 1) := by decide +kernel
theorem dX7_ticks_128 : decode cX7_ticks 128 = .ok (.goto 4, 3) := by decide +kernel
theorem dX7_ticks_131 : decode cX7_ticks 131 = .ok (.iconst 0, 1) := by decide +kernel
theorem dX7_ticks_132 : decode cX7_ticks 132 = .ok (.isub, 1) := by decide +kernel
theorem dX7_ticks_133 : decode cX7_ticks 133 = .ok (.istore_n 3, 1) := by decide +kernel
theorem dX7_ticks_134 : decode cX7_ticks 134 = .ok (.iinc 3 1, 3) := by decide +kernel
theorem dX7_ticks_137 : decode cX7_ticks 137 = .ok (.goto (-60), 3) := by decide +kernel
theorem dX7_ticks_140 : decode cX7_ticks 140 = .ok (.iinc 2 1, 3) := by decide +kernel
theorem dX7_ticks_143 : decode cX7_ticks 143 = .ok (.goto (-73), 3) := by decide +kernel
theorem dX7_ticks_146 : decode cX7_ticks 146 = .ok (.iload_n 1, 1) := by decide +kernel
theorem dX7_ticks_147 : decode cX7_ticks 147 = .ok (.ireturn, 1) := by decide +kernel
theorem dX7_colourOf_0 : decode cX7_colourOf 0 = .ok (.iload_n 0, 1) := by decide +kernel
theorem dX7_colourOf_1 : decode cX7_colourOf 1 = .ok (.bipush 114, 2) := by decide +kernel
theorem dX7_colourOf_3 : decode cX7_colourOf 3 = .ok (.if_icmp .ne 7, 3) := by decide +kernel
theorem dX7_colourOf_6 : decode cX7_colourOf 6 = .ok (.iconst 0, 1) := by decide +kernel
theorem dX7_colourOf_7 : decode cX7_colourOf 7 = .ok (.goto 24, 3) := by decide +kernel
theorem dX7_colourOf_10 : decode cX7_colourOf 10 = .ok (.iload_n 0, 1) := by decide +kernel
theorem dX7_colourOf_11 : decode cX7_colourOf 11 = .ok (.bipush 103, 2) := by decide +kernel
theorem dX7_colourOf_13 : decode cX7_colourOf 13 = .ok (.if_icmp .ne 7, 3) := by decide +kernel
theorem dX7_colourOf_16 : decode cX7_colourOf 16 = .ok (.iconst 1, 1) := by decide +kernel
theorem dX7_colourOf_17 : decode cX7_colourOf 17 = .ok (.goto 14, 3) := by decide +kernel
theorem dX7_colourOf_20 : decode cX7_colourOf 20 = .ok (.iload_n 0, 1) := by decide +kernel
theorem dX7_colourOf_21 : decode cX7_colourOf 21 = .ok (.bipush 98, 2) := by decide +kernel
theorem dX7_colourOf_23 : decode cX7_colourOf 23 = .ok (.if_icmp .ne 7, 3) := by decide +kernel
theorem dX7_colourOf_26 : decode cX7_colourOf 26 = .ok (.iconst 2, 1) := by decide +kernel
theorem dX7_colourOf_27 : decode cX7_colourOf 27 = .ok (.goto 4, 3) := by decide +kernel
theorem dX7_colourOf_30 : decode cX7_colourOf 30 = .ok (.iconst (-1), 1) := by decide +kernel
theorem dX7_colourOf_31 : decode cX7_colourOf 31 = .ok (.ireturn, 1) := by decide +kernel
theorem dX7_signOf_0 : decode cX7_signOf 0 = .ok (.iload_n 0, 1) := by decide +kernel
theorem dX7_signOf_1 : decode cX7_signOf 1 = .ok (.ifCond .ne 8, 3) := by decide +kernel
theorem dX7_signOf_4 : decode cX7_signOf 4 = .ok (.bipush 114, 2) := by decide +kernel
theorem dX7_signOf_6 : decode cX7_signOf 6 = .ok (.goto 15, 3) := by decide +kernel
theorem dX7_signOf_9 : decode cX7_signOf 9 = .ok (.iload_n 0, 1) := by decide +kernel
theorem dX7_signOf_10 : decode cX7_signOf 10 = .ok (.iconst 1, 1) := by decide +kernel
theorem dX7_signOf_11 : decode cX7_signOf 11 = .ok (.if_icmp .ne 8, 3) := by decide +kernel
theorem dX7_signOf_14 : decode cX7_signOf 14 = .ok (.bipush 103, 2) := by decide +kernel
theorem dX7_signOf_16 : decode cX7_signOf 16 = .ok (.goto 5, 3) := by decide +kernel
theorem dX7_signOf_19 : decode cX7_signOf 19 = .ok (.bipush 98, 2) := by decide +kernel
theorem dX7_signOf_21 : decode cX7_signOf 21 = .ok (.ireturn, 1) := by decide +kernel
theorem dX7_adds_0 : decode cX7_adds 0 = .ok (.iload_n 1, 1) := by decide +kernel
theorem dX7_adds_1 : decode cX7_adds 1 = .ok (.ifCond .lt 13, 3) := by decide +kernel
theorem dX7_adds_4 : decode cX7_adds 4 = .ok (.iload_n 2, 1) := by decide +kernel
theorem dX7_adds_5 : decode cX7_adds 5 = .ok (.iconst 1, 1) := by decide +kernel
theorem dX7_adds_6 : decode cX7_adds 6 = .ok (.bipush 9, 2) := by decide +kernel
theorem dX7_adds_8 : decode cX7_adds 8 = .ok (.invokestatic 43, 3) := by decide +kernel
theorem dX7_adds_11 : decode cX7_adds 11 = .ok (.ifCond .ne 5, 3) := by decide +kernel
theorem dX7_adds_14 : decode cX7_adds 14 = .ok (.iconst 2, 1) := by decide +kernel
theorem dX7_adds_15 : decode cX7_adds 15 = .ok (.ireturn, 1) := by decide +kernel
theorem dX7_adds_16 : decode cX7_adds 16 = .ok (.aload_n 0, 1) := by decide +kernel
theorem dX7_adds_17 : decode cX7_adds 17 = .ok (.getfield 9, 3) := by decide +kernel
theorem dX7_adds_20 : decode cX7_adds 20 = .ok (.bipush 6, 2) := by decide +kernel
theorem dX7_adds_22 : decode cX7_adds 22 = .ok (.iaload, 1) := by decide +kernel
theorem dX7_adds_23 : decode cX7_adds 23 = .ok (.istore 4, 2) := by decide +kernel
theorem dX7_adds_25 : decode cX7_adds 25 = .ok (.iload 4, 2) := by decide +kernel
theorem dX7_adds_27 : decode cX7_adds 27 = .ok (.bipush 8, 2) := by decide +kernel
theorem dX7_adds_29 : decode cX7_adds 29 = .ok (.if_icmp .ne 5, 3) := by decide +kernel
theorem dX7_adds_32 : decode cX7_adds 32 = .ok (.iconst 3, 1) := by decide +kernel
theorem dX7_adds_33 : decode cX7_adds 33 = .ok (.ireturn, 1) := by decide +kernel
theorem dX7_adds_34 : decode cX7_adds 34 = .ok (.aload_n 0, 1) := by decide +kernel
theorem dX7_adds_35 : decode cX7_adds 35 = .ok (.getfield 9, 3) := by decide +kernel
theorem dX7_adds_38 : decode cX7_adds 38 = .ok (.bipush 6, 2) := by decide +kernel
theorem dX7_adds_40 : decode cX7_adds 40 = .ok (.dup2, 1) := by decide +kernel
theorem dX7_adds_41 : decode cX7_adds 41 = .ok (.iaload, 1) := by decide +kernel
theorem dX7_adds_42 : decode cX7_adds 42 = .ok (.iconst 1, 1) := by decide +kernel
theorem dX7_adds_43 : decode cX7_adds 43 = .ok (.iadd, 1) := by decide +kernel
theorem dX7_adds_44 : decode cX7_adds 44 = .ok (.iastore, 1) := by decide +kernel
theorem dX7_adds_45 : decode cX7_adds 45 = .ok (.aload_n 0, 1) := by decide +kernel
theorem dX7_adds_46 : decode cX7_adds 46 = .ok (.iload 4, 2) := by decide +kernel
theorem dX7_adds_48 : decode cX7_adds 48 = .ok (.iconst 0, 1) := by decide +kernel
theorem dX7_adds_49 : decode cX7_adds 49 = .ok (.iload_n 1, 1) := by decide +kernel
theorem dX7_adds_50 : decode cX7_adds 50 = .ok (.invokevirtual 64, 3) := by decide +kernel
theorem dX7_adds_53 : decode cX7_adds 53 = .ok (.aload_n 0, 1) := by decide +kernel
theorem dX7_adds_54 : decode cX7_adds 54 = .ok (.iload 4, 2) := by decide +kernel
theorem dX7_adds_56 : decode cX7_adds 56 = .ok (.iconst 1, 1) := by decide +kernel
theorem dX7_adds_57 : decode cX7_adds 57 = .ok (.iload_n 2, 1) := by decide +kernel
theorem dX7_adds_58 : decode cX7_adds 58 = .ok (.invokevirtual 64, 3) := by decide +kernel
theorem dX7_adds_61 : decode cX7_adds 61 = .ok (.aload_n 0, 1) := by decide +kernel
theorem dX7_adds_62 : decode cX7_adds 62 = .ok (.iload 4, 2) := by decide +kernel
theorem dX7_adds_64 : decode cX7_adds 64 = .ok (.iconst 2, 1) := by decide +kernel
theorem dX7_adds_65 : decode cX7_adds 65 = .ok (.iload_n 3, 1) := by decide +kernel
theorem dX7_adds_66 : decode cX7_adds 66 = .ok (.invokevirtual 64, 3) := by decide +kernel
theorem dX7_adds_69 : decode cX7_adds 69 = .ok (.aload_n 0, 1) := by decide +kernel
theorem dX7_adds_70 : decode cX7_adds 70 = .ok (.iload 4, 2) := by decide +kernel
theorem dX7_adds_72 : decode cX7_adds 72 = .ok (.iconst 3, 1) := by decide +kernel
theorem dX7_adds_73 : decode cX7_adds 73 = .ok (.iload_n 3, 1) := by decide +kernel
theorem dX7_adds_74 : decode cX7_adds 74 = .ok (.iconst 1, 1) := by decide +kernel
theorem dX7_adds_75 : decode cX7_adds 75 = .ok (.if_icmp .ne 7, 3) := by decide +kernel
theorem dX7_adds_78 : decode cX7_adds 78 = .ok (.iconst 0, 1) := by decide +kernel
theorem dX7_adds_79 : decode cX7_adds 79 = .ok (.goto 4, 3) := by decide +kernel
theorem dX7_adds_82 : decode cX7_adds 82 = .ok (.iconst 4, 1) := by decide +kernel
theorem dX7_adds_83 : decode cX7_adds 83 = .ok (.invokevirtual 64, 3) := by decide +kernel
theorem dX7_adds_86 : decode cX7_adds 86 = .ok (.aload_n 0, 1) := by decide +kernel
theorem dX7_adds_87 : decode cX7_adds 87 = .ok (.iload 4, 2) := by decide +kernel
theorem dX7_adds_89 : decode cX7_adds 89 = .ok (.iconst 4, 1) := by decide +kernel
theorem dX7_adds_90 : decode cX7_adds 90 = .ok (.iconst 0, 1) := by decide +kernel
theorem dX7_adds_91 : decode cX7_adds 91 = .ok (.invokevirtual 64, 3) := by decide +kernel
theorem dX7_adds_94 : decode cX7_adds 94 = .ok (.aload_n 0, 1) := by decide +kernel
theorem dX7_adds_95 : decode cX7_adds 95 = .ok (.iload 4, 2) := by decide +kernel
theorem dX7_adds_97 : decode cX7_adds 97 = .ok (.putfield 40, 3) := by decide +kernel
theorem dX7_adds_100 : decode cX7_adds 100 = .ok (.iconst 0, 1) := by decide +kernel
theorem dX7_adds_101 : decode cX7_adds 101 = .ok (.ireturn, 1) := by decide +kernel
theorem dX7_addBoat_0 : decode cX7_addBoat 0 = .ok (.aload_n 0, 1) := by decide +kernel
theorem dX7_addBoat_1 : decode cX7_addBoat 1 = .ok (.invokevirtual 92, 3) := by decide +kernel
theorem dX7_addBoat_4 : decode cX7_addBoat 4 = .ok (.aload_n 0, 1) := by decide +kernel
theorem dX7_addBoat_5 : decode cX7_addBoat 5 = .ok (.aload_n 0, 1) := by decide +kernel
theorem dX7_addBoat_6 : decode cX7_addBoat 6 = .ok (.iload_n 1, 1) := by decide +kernel
theorem dX7_addBoat_7 : decode cX7_addBoat 7 = .ok (.invokestatic 95, 3) := by decide +kernel
theorem dX7_addBoat_10 : decode cX7_addBoat 10 = .ok (.iload_n 2, 1) := by decide +kernel
theorem dX7_addBoat_11 : decode cX7_addBoat 11 = .ok (.iload_n 3, 1) := by decide +kernel
theorem dX7_addBoat_12 : decode cX7_addBoat 12 = .ok (.ifCond .eq 7, 3) := by decide +kernel
theorem dX7_addBoat_15 : decode cX7_addBoat 15 = .ok (.iconst 1, 1) := by decide +kernel
theorem dX7_addBoat_16 : decode cX7_addBoat 16 = .ok (.goto 4, 3) := by decide +kernel
theorem dX7_addBoat_19 : decode cX7_addBoat 19 = .ok (.iconst 0, 1) := by decide +kernel
theorem dX7_addBoat_20 : decode cX7_addBoat 20 = .ok (.invokevirtual 98, 3) := by decide +kernel
theorem dX7_addBoat_23 : decode cX7_addBoat 23 = .ok (.iconst 0, 1) := by decide +kernel
theorem dX7_addBoat_24 : decode cX7_addBoat 24 = .ok (.iconst 1, 1) := by decide +kernel
theorem dX7_addBoat_25 : decode cX7_addBoat 25 = .ok (.iconst 2, 1) := by decide +kernel
theorem dX7_addBoat_26 : decode cX7_addBoat 26 = .ok (.iconst 0, 1) := by decide +kernel
theorem dX7_addBoat_27 : decode cX7_addBoat 27 = .ok (.invokevirtual 102, 3) := by decide +kernel
theorem dX7_addBoat_30 : decode cX7_addBoat 30 = .ok (.ireturn, 1) := by decide +kernel
theorem dX7_turns_0 : decode cX7_turns 0 = .ok (.iload_n 1, 1) := by decide +kernel
theorem dX7_turns_1 : decode cX7_turns 1 = .ok (.invokestatic 106, 3) := by decide +kernel
theorem dX7_turns_4 : decode cX7_turns 4 = .ok (.ifCond .ne 5, 3) := by decide +kernel
theorem dX7_turns_7 : decode cX7_turns 7 = .ok (.iconst 1, 1) := by decide +kernel
theorem dX7_turns_8 : decode cX7_turns 8 = .ok (.ireturn, 1) := by decide +kernel
theorem dX7_turns_9 : decode cX7_turns 9 = .ok (.iload_n 2, 1) := by decide +kernel
theorem dX7_turns_10 : decode cX7_turns 10 = .ok (.iconst 0, 1) := by decide +kernel
theorem dX7_turns_11 : decode cX7_turns 11 = .ok (.iconst 3, 1) := by decide +kernel
theorem dX7_turns_12 : decode cX7_turns 12 = .ok (.invokestatic 43, 3) := by decide +kernel
theorem dX7_turns_15 : decode cX7_turns 15 = .ok (.ifCond .ne 5, 3) := by decide +kernel
theorem dX7_turns_18 : decode cX7_turns 18 = .ok (.iconst 2, 1) := by decide +kernel
theorem dX7_turns_19 : decode cX7_turns 19 = .ok (.ireturn, 1) := by decide +kernel
theorem dX7_turns_20 : decode cX7_turns 20 = .ok (.aload_n 0, 1) := by decide +kernel
theorem dX7_turns_21 : decode cX7_turns 21 = .ok (.aload_n 0, 1) := by decide +kernel
theorem dX7_turns_22 : decode cX7_turns 22 = .ok (.getfield 9, 3) := by decide +kernel
theorem dX7_turns_25 : decode cX7_turns 25 = .ok (.bipush 16, 2) := by decide +kernel
theorem dX7_turns_27 : decode cX7_turns 27 = .ok (.iload_n 1, 1) := by decide +kernel
theorem dX7_turns_28 : decode cX7_turns 28 = .ok (.iadd, 1) := by decide +kernel
theorem dX7_turns_29 : decode cX7_turns 29 = .ok (.iaload, 1) := by decide +kernel
theorem dX7_turns_30 : decode cX7_turns 30 = .ok (.putfield 40, 3) := by decide +kernel
theorem dX7_turns_33 : decode cX7_turns 33 = .ok (.aload_n 0, 1) := by decide +kernel
theorem dX7_turns_34 : decode cX7_turns 34 = .ok (.getfield 9, 3) := by decide +kernel
theorem dX7_turns_37 : decode cX7_turns 37 = .ok (.bipush 16, 2) := by decide +kernel
theorem dX7_turns_39 : decode cX7_turns 39 = .ok (.iload_n 1, 1) := by decide +kernel
theorem dX7_turns_40 : decode cX7_turns 40 = .ok (.iadd, 1) := by decide +kernel
theorem dX7_turns_41 : decode cX7_turns 41 = .ok (.iload_n 2, 1) := by decide +kernel
theorem dX7_turns_42 : decode cX7_turns 42 = .ok (.iastore, 1) := by decide +kernel
theorem dX7_turns_43 : decode cX7_turns 43 = .ok (.iconst 0, 1) := by decide +kernel
theorem dX7_turns_44 : decode cX7_turns 44 = .ok (.ireturn, 1) := by decide +kernel
theorem dX7_setValve_0 : decode cX7_setValve 0 = .ok (.aload_n 0, 1) := by decide +kernel
theorem dX7_setValve_1 : decode cX7_setValve 1 = .ok (.invokevirtual 92, 3) := by decide +kernel
theorem dX7_setValve_4 : decode cX7_setValve 4 = .ok (.aload_n 0, 1) := by decide +kernel
theorem dX7_setValve_5 : decode cX7_setValve 5 = .ok (.aload_n 0, 1) := by decide +kernel
theorem dX7_setValve_6 : decode cX7_setValve 6 = .ok (.iload_n 1, 1) := by decide +kernel
theorem dX7_setValve_7 : decode cX7_setValve 7 = .ok (.iload_n 2, 1) := by decide +kernel
theorem dX7_setValve_8 : decode cX7_setValve 8 = .ok (.invokevirtual 109, 3) := by decide +kernel
theorem dX7_setValve_11 : decode cX7_setValve 11 = .ok (.iconst 1, 1) := by decide +kernel
theorem dX7_setValve_12 : decode cX7_setValve 12 = .ok (.iconst 2, 1) := by decide +kernel
theorem dX7_setValve_13 : decode cX7_setValve 13 = .ok (.iconst 0, 1) := by decide +kernel
theorem dX7_setValve_14 : decode cX7_setValve 14 = .ok (.iconst 0, 1) := by decide +kernel
theorem dX7_setValve_15 : decode cX7_setValve 15 = .ok (.invokevirtual 102, 3) := by decide +kernel
theorem dX7_setValve_18 : decode cX7_setValve 18 = .ok (.ireturn, 1) := by decide +kernel
theorem dX7_openGates_0 : decode cX7_openGates 0 = .ok (.aload_n 0, 1) := by decide +kernel
theorem dX7_openGates_1 : decode cX7_openGates 1 = .ok (.getfield 9, 3) := by decide +kernel
theorem dX7_openGates_4 : decode cX7_openGates 4 = .ok (.bipush 20, 2) := by decide +kernel
theorem dX7_openGates_6 : decode cX7_openGates 6 = .ok (.iaload, 1) := by decide +kernel
theorem dX7_openGates_7 : decode cX7_openGates 7 = .ok (.aload_n 0, 1) := by decide +kernel
theorem dX7_openGates_8 : decode cX7_openGates 8 = .ok (.getfield 9, 3) := by decide +kernel
theorem dX7_openGates_11 : decode cX7_openGates 11 = .ok (.bipush 21, 2) := by decide +kernel
theorem dX7_openGates_13 : decode cX7_openGates 13 = .ok (.iaload, 1) := by decide +kernel
theorem dX7_openGates_14 : decode cX7_openGates 14 = .ok (.iadd, 1) := by decide +kernel
theorem dX7_openGates_15 : decode cX7_openGates 15 = .ok (.aload_n 0, 1) := by decide +kernel
theorem dX7_openGates_16 : decode cX7_openGates 16 = .ok (.getfield 9, 3) := by decide +kernel
theorem dX7_openGates_19 : decode cX7_openGates 19 = .ok (.bipush 22, 2) := by decide +kernel
theorem dX7_openGates_21 : decode cX7_openGates 21 = .ok (.iaload, 1) := by decide +kernel
theorem dX7_openGates_22 : decode cX7_openGates 22 = .ok (.iadd, 1) := by decide +kernel
theorem dX7_openGates_23 : decode cX7_openGates 23 = .ok (.aload_n 0, 1) := by decide +kernel
theorem dX7_openGates_24 : decode cX7_openGates 24 = .ok (.getfield 9, 3) := by decide +kernel
theorem dX7_openGates_27 : decode cX7_openGates 27 = .ok (.bipush 23, 2) := by decide +kernel
theorem dX7_openGates_29 : decode cX7_openGates 29 = .ok (.iaload, 1) := by decide +kernel
theorem dX7_openGates_30 : decode cX7_openGates 30 = .ok (.iadd, 1) := by decide +kernel
theorem dX7_openGates_31 : decode cX7_openGates 31 = .ok (.ireturn, 1) := by decide +kernel
theorem dX7_opens_0 : decode cX7_opens 0 = .ok (.iload_n 1, 1) := by decide +kernel
theorem dX7_opens_1 : decode cX7_opens 1 = .ok (.invokestatic 106, 3) := by decide +kernel
theorem dX7_opens_4 : decode cX7_opens 4 = .ok (.ifCond .ne 5, 3) := by decide +kernel
theorem dX7_opens_7 : decode cX7_opens 7 = .ok (.iconst 1, 1) := by decide +kernel
theorem dX7_opens_8 : decode cX7_opens 8 = .ok (.ireturn, 1) := by decide +kernel
theorem dX7_opens_9 : decode cX7_opens 9 = .ok (.aload_n 0, 1) := by decide +kernel
theorem dX7_opens_10 : decode cX7_opens 10 = .ok (.getfield 9, 3) := by decide +kernel
theorem dX7_opens_13 : decode cX7_opens 13 = .ok (.bipush 20, 2) := by decide +kernel
theorem dX7_opens_15 : decode cX7_opens 15 = .ok (.iload_n 1, 1) := by decide +kernel
theorem dX7_opens_16 : decode cX7_opens 16 = .ok (.iadd, 1) := by decide +kernel
theorem dX7_opens_17 : decode cX7_opens 17 = .ok (.iaload, 1) := by decide +kernel
theorem dX7_opens_18 : decode cX7_opens 18 = .ok (.iconst 1, 1) := by decide +kernel
theorem dX7_opens_19 : decode cX7_opens 19 = .ok (.if_icmp .ne 5, 3) := by decide +kernel
theorem dX7_opens_22 : decode cX7_opens 22 = .ok (.iconst 3, 1) := by decide +kernel
theorem dX7_opens_23 : decode cX7_opens 23 = .ok (.ireturn, 1) := by decide +kernel
theorem dX7_opens_24 : decode cX7_opens 24 = .ok (.aload_n 0, 1) := by decide +kernel
theorem dX7_opens_25 : decode cX7_opens 25 = .ok (.iload_n 1, 1) := by decide +kernel
theorem dX7_opens_26 : decode cX7_opens 26 = .ok (.invokevirtual 55, 3) := by decide +kernel
theorem dX7_opens_29 : decode cX7_opens 29 = .ok (.ifCond .eq 5, 3) := by decide +kernel
theorem dX7_opens_32 : decode cX7_opens 32 = .ok (.iconst 4, 1) := by decide +kernel
theorem dX7_opens_33 : decode cX7_opens 33 = .ok (.ireturn, 1) := by decide +kernel
theorem dX7_opens_34 : decode cX7_opens 34 = .ok (.aload_n 0, 1) := by decide +kernel
theorem dX7_opens_35 : decode cX7_opens 35 = .ok (.getfield 9, 3) := by decide +kernel
theorem dX7_opens_38 : decode cX7_opens 38 = .ok (.bipush 20, 2) := by decide +kernel
theorem dX7_opens_40 : decode cX7_opens 40 = .ok (.iload_n 1, 1) := by decide +kernel
theorem dX7_opens_41 : decode cX7_opens 41 = .ok (.iadd, 1) := by decide +kernel
theorem dX7_opens_42 : decode cX7_opens 42 = .ok (.iconst 1, 1) := by decide +kernel
theorem dX7_opens_43 : decode cX7_opens 43 = .ok (.iastore, 1) := by decide +kernel
theorem dX7_opens_44 : decode cX7_opens 44 = .ok (.aload_n 0, 1) := by decide +kernel
theorem dX7_opens_45 : decode cX7_opens 45 = .ok (.aload_n 0, 1) := by decide +kernel
theorem dX7_opens_46 : decode cX7_opens 46 = .ok (.invokevirtual 112, 3) := by decide +kernel
theorem dX7_opens_49 : decode cX7_opens 49 = .ok (.putfield 40, 3) := by decide +kernel
theorem dX7_opens_52 : decode cX7_opens 52 = .ok (.iconst 0, 1) := by decide +kernel
theorem dX7_opens_53 : decode cX7_opens 53 = .ok (.ireturn, 1) := by decide +kernel
theorem dX7_openGate_0 : decode cX7_openGate 0 = .ok (.aload_n 0, 1) := by decide +kernel
theorem dX7_openGate_1 : decode cX7_openGate 1 = .ok (.invokevirtual 92, 3) := by decide +kernel
theorem dX7_openGate_4 : decode cX7_openGate 4 = .ok (.aload_n 0, 1) := by decide +kernel
theorem dX7_openGate_5 : decode cX7_openGate 5 = .ok (.aload_n 0, 1) := by decide +kernel
theorem dX7_openGate_6 : decode cX7_openGate 6 = .ok (.iload_n 1, 1) := by decide +kernel
theorem dX7_openGate_7 : decode cX7_openGate 7 = .ok (.invokevirtual 116, 3) := by decide +kernel
theorem dX7_openGate_10 : decode cX7_openGate 10 = .ok (.iconst 1, 1) := by decide +kernel
theorem dX7_openGate_11 : decode cX7_openGate 11 = .ok (.iconst 0, 1) := by decide +kernel
theorem dX7_openGate_12 : decode cX7_openGate 12 = .ok (.iconst 2, 1) := by decide +kernel
theorem dX7_openGate_13 : decode cX7_openGate 13 = .ok (.iconst 3, 1) := by decide +kernel
theorem dX7_openGate_14 : decode cX7_openGate 14 = .ok (.invokevirtual 102, 3) := by decide +kernel
theorem dX7_openGate_17 : decode cX7_openGate 17 = .ok (.ireturn, 1) := by decide +kernel
theorem dX7_shuts_0 : decode cX7_shuts 0 = .ok (.iload_n 1, 1) := by decide +kernel
theorem dX7_shuts_1 : decode cX7_shuts 1 = .ok (.invokestatic 106, 3) := by decide +kernel
theorem dX7_shuts_4 : decode cX7_shuts 4 = .ok (.ifCond .ne 5, 3) := by decide +kernel
theorem dX7_shuts_7 : decode cX7_shuts 7 = .ok (.iconst 1, 1) := by decide +kernel
theorem dX7_shuts_8 : decode cX7_shuts 8 = .ok (.ireturn, 1) := by decide +kernel
theorem dX7_shuts_9 : decode cX7_shuts 9 = .ok (.aload_n 0, 1) := by decide +kernel
theorem dX7_shuts_10 : decode cX7_shuts 10 = .ok (.getfield 9, 3) := by decide +kernel
theorem dX7_shuts_13 : decode cX7_shuts 13 = .ok (.bipush 20, 2) := by decide +kernel
theorem dX7_shuts_15 : decode cX7_shuts 15 = .ok (.iload_n 1, 1) := by decide +kernel
theorem dX7_shuts_16 : decode cX7_shuts 16 = .ok (.iadd, 1) := by decide +kernel
theorem dX7_shuts_17 : decode cX7_shuts 17 = .ok (.iaload, 1) := by decide +kernel
theorem dX7_shuts_18 : decode cX7_shuts 18 = .ok (.ifCond .ne 5, 3) := by decide +kernel
theorem dX7_shuts_21 : decode cX7_shuts 21 = .ok (.iconst 3, 1) := by decide +kernel
theorem dX7_shuts_22 : decode cX7_shuts 22 = .ok (.ireturn, 1) := by decide +kernel
theorem dX7_shuts_23 : decode cX7_shuts 23 = .ok (.aload_n 0, 1) := by decide +kernel
theorem dX7_shuts_24 : decode cX7_shuts 24 = .ok (.getfield 9, 3) := by decide +kernel
theorem dX7_shuts_27 : decode cX7_shuts 27 = .ok (.bipush 20, 2) := by decide +kernel
theorem dX7_shuts_29 : decode cX7_shuts 29 = .ok (.iload_n 1, 1) := by decide +kernel
theorem dX7_shuts_30 : decode cX7_shuts 30 = .ok (.iadd, 1) := by decide +kernel
theorem dX7_shuts_31 : decode cX7_shuts 31 = .ok (.iconst 0, 1) := by decide +kernel
theorem dX7_shuts_32 : decode cX7_shuts 32 = .ok (.iastore, 1) := by decide +kernel
theorem dX7_shuts_33 : decode cX7_shuts 33 = .ok (.aload_n 0, 1) := by decide +kernel
theorem dX7_shuts_34 : decode cX7_shuts 34 = .ok (.aload_n 0, 1) := by decide +kernel
theorem dX7_shuts_35 : decode cX7_shuts 35 = .ok (.invokevirtual 112, 3) := by decide +kernel
theorem dX7_shuts_38 : decode cX7_shuts 38 = .ok (.putfield 40, 3) := by decide +kernel
theorem dX7_shuts_41 : decode cX7_shuts 41 = .ok (.iconst 0, 1) := by decide +kernel
theorem dX7_shuts_42 : decode cX7_shuts 42 = .ok (.ireturn, 1) := by decide +kernel
theorem dX7_shutGate_0 : decode cX7_shutGate 0 = .ok (.aload_n 0, 1) := by decide +kernel
theorem dX7_shutGate_1 : decode cX7_shutGate 1 = .ok (.invokevirtual 92, 3) := by decide +kernel
theorem dX7_shutGate_4 : decode cX7_shutGate 4 = .ok (.aload_n 0, 1) := by decide +kernel
theorem dX7_shutGate_5 : decode cX7_shutGate 5 = .ok (.aload_n 0, 1) := by decide +kernel
theorem dX7_shutGate_6 : decode cX7_shutGate 6 = .ok (.iload_n 1, 1) := by decide +kernel
theorem dX7_shutGate_7 : decode cX7_shutGate 7 = .ok (.invokevirtual 119, 3) := by decide +kernel
theorem dX7_shutGate_10 : decode cX7_shutGate 10 = .ok (.iconst 1, 1) := by decide +kernel
theorem dX7_shutGate_11 : decode cX7_shutGate 11 = .ok (.iconst 0, 1) := by decide +kernel
theorem dX7_shutGate_12 : decode cX7_shutGate 12 = .ok (.iconst 2, 1) := by decide +kernel
theorem dX7_shutGate_13 : decode cX7_shutGate 13 = .ok (.iconst 0, 1) := by decide +kernel
theorem dX7_shutGate_14 : decode cX7_shutGate 14 = .ok (.invokevirtual 102, 3) := by decide +kernel
theorem dX7_shutGate_17 : decode cX7_shutGate 17 = .ok (.ireturn, 1) := by decide +kernel
theorem dX7_weather_0 : decode cX7_weather 0 = .ok (.iload_n 2, 1) := by decide +kernel
theorem dX7_weather_1 : decode cX7_weather 1 = .ok (.iconst 0, 1) := by decide +kernel
theorem dX7_weather_2 : decode cX7_weather 2 = .ok (.bipush 9, 2) := by decide +kernel
theorem dX7_weather_4 : decode cX7_weather 4 = .ok (.invokestatic 43, 3) := by decide +kernel
theorem dX7_weather_7 : decode cX7_weather 7 = .ok (.ifCond .ne 5, 3) := by decide +kernel
theorem dX7_weather_10 : decode cX7_weather 10 = .ok (.iconst 2, 1) := by decide +kernel
theorem dX7_weather_11 : decode cX7_weather 11 = .ok (.ireturn, 1) := by decide +kernel
theorem dX7_weather_12 : decode cX7_weather 12 = .ok (.aload_n 0, 1) := by decide +kernel
theorem dX7_weather_13 : decode cX7_weather 13 = .ok (.aload_n 0, 1) := by decide +kernel
theorem dX7_weather_14 : decode cX7_weather 14 = .ok (.getfield 9, 3) := by decide +kernel
theorem dX7_weather_17 : decode cX7_weather 17 = .ok (.iload_n 1, 1) := by decide +kernel
theorem dX7_weather_18 : decode cX7_weather 18 = .ok (.iaload, 1) := by decide +kernel
theorem dX7_weather_19 : decode cX7_weather 19 = .ok (.putfield 40, 3) := by decide +kernel
theorem dX7_weather_22 : decode cX7_weather 22 = .ok (.aload_n 0, 1) := by decide +kernel
theorem dX7_weather_23 : decode cX7_weather 23 = .ok (.getfield 9, 3) := by decide +kernel
theorem dX7_weather_26 : decode cX7_weather 26 = .ok (.iload_n 1, 1) := by decide +kernel
theorem dX7_weather_27 : decode cX7_weather 27 = .ok (.iload_n 2, 1) := by decide +kernel
theorem dX7_weather_28 : decode cX7_weather 28 = .ok (.iastore, 1) := by decide +kernel
theorem dX7_weather_29 : decode cX7_weather 29 = .ok (.iconst 0, 1) := by decide +kernel
theorem dX7_weather_30 : decode cX7_weather 30 = .ok (.ireturn, 1) := by decide +kernel
theorem dX7_setRain_0 : decode cX7_setRain 0 = .ok (.aload_n 0, 1) := by decide +kernel
theorem dX7_setRain_1 : decode cX7_setRain 1 = .ok (.invokevirtual 92, 3) := by decide +kernel
theorem dX7_setRain_4 : decode cX7_setRain 4 = .ok (.aload_n 0, 1) := by decide +kernel
theorem dX7_setRain_5 : decode cX7_setRain 5 = .ok (.aload_n 0, 1) := by decide +kernel
theorem dX7_setRain_6 : decode cX7_setRain 6 = .ok (.iconst 1, 1) := by decide +kernel
theorem dX7_setRain_7 : decode cX7_setRain 7 = .ok (.iload_n 1, 1) := by decide +kernel
theorem dX7_setRain_8 : decode cX7_setRain 8 = .ok (.invokevirtual 122, 3) := by decide +kernel
theorem dX7_setRain_11 : decode cX7_setRain 11 = .ok (.iconst 0, 1) := by decide +kernel
theorem dX7_setRain_12 : decode cX7_setRain 12 = .ok (.iconst 1, 1) := by decide +kernel
theorem dX7_setRain_13 : decode cX7_setRain 13 = .ok (.iconst 0, 1) := by decide +kernel
theorem dX7_setRain_14 : decode cX7_setRain 14 = .ok (.iconst 0, 1) := by decide +kernel
theorem dX7_setRain_15 : decode cX7_setRain 15 = .ok (.invokevirtual 102, 3) := by decide +kernel
theorem dX7_setRain_18 : decode cX7_setRain 18 = .ok (.ireturn, 1) := by decide +kernel
theorem dX7_setDrain_0 : decode cX7_setDrain 0 = .ok (.aload_n 0, 1) := by decide +kernel
theorem dX7_setDrain_1 : decode cX7_setDrain 1 = .ok (.invokevirtual 92, 3) := by decide +kernel
theorem dX7_setDrain_4 : decode cX7_setDrain 4 = .ok (.aload_n 0, 1) := by decide +kernel
theorem dX7_setDrain_5 : decode cX7_setDrain 5 = .ok (.aload_n 0, 1) := by decide +kernel
theorem dX7_setDrain_6 : decode cX7_setDrain 6 = .ok (.iconst 2, 1) := by decide +kernel
theorem dX7_setDrain_7 : decode cX7_setDrain 7 = .ok (.iload_n 1, 1) := by decide +kernel
theorem dX7_setDrain_8 : decode cX7_setDrain 8 = .ok (.invokevirtual 122, 3) := by decide +kernel
theorem dX7_setDrain_11 : decode cX7_setDrain 11 = .ok (.iconst 0, 1) := by decide +kernel
theorem dX7_setDrain_12 : decode cX7_setDrain 12 = .ok (.iconst 1, 1) := by decide +kernel
theorem dX7_setDrain_13 : decode cX7_setDrain 13 = .ok (.iconst 0, 1) := by decide +kernel
theorem dX7_setDrain_14 : decode cX7_setDrain 14 = .ok (.iconst 0, 1) := by decide +kernel
theorem dX7_setDrain_15 : decode cX7_setDrain 15 = .ok (.invokevirtual 102, 3) := by decide +kernel
theorem dX7_setDrain_18 : decode cX7_setDrain 18 = .ok (.ireturn, 1) := by decide +kernel
theorem dX7_waits_0 : decode cX7_waits 0 = .ok (.iload_n 1, 1) := by decide +kernel
theorem dX7_waits_1 : decode cX7_waits 1 = .ok (.iconst 1, 1) := by decide +kernel
theorem dX7_waits_2 : decode cX7_waits 2 = .ok (.sipush 200, 3) := by decide +kernel
theorem dX7_waits_5 : decode cX7_waits 5 = .ok (.invokestatic 43, 3) := by decide +kernel
theorem dX7_waits_8 : decode cX7_waits 8 = .ok (.ifCond .ne 5, 3) := by decide +kernel
theorem dX7_waits_11 : decode cX7_waits 11 = .ok (.iconst 2, 1) := by decide +kernel
theorem dX7_waits_12 : decode cX7_waits 12 = .ok (.ireturn, 1) := by decide +kernel
theorem dX7_waits_13 : decode cX7_waits 13 = .ok (.aload_n 0, 1) := by decide +kernel
theorem dX7_waits_14 : decode cX7_waits 14 = .ok (.iconst 0, 1) := by decide +kernel
theorem dX7_waits_15 : decode cX7_waits 15 = .ok (.putfield 40, 3) := by decide +kernel
theorem dX7_waits_18 : decode cX7_waits 18 = .ok (.iconst 0, 1) := by decide +kernel
theorem dX7_waits_19 : decode cX7_waits 19 = .ok (.istore_n 2, 1) := by decide +kernel
theorem dX7_waits_20 : decode cX7_waits 20 = .ok (.iload_n 2, 1) := by decide +kernel
theorem dX7_waits_21 : decode cX7_waits 21 = .ok (.iload_n 1, 1) := by decide +kernel
theorem dX7_waits_22 : decode cX7_waits 22 = .ok (.if_icmp .ge 22, 3) := by decide +kernel
theorem dX7_waits_25 : decode cX7_waits 25 = .ok (.aload_n 0, 1) := by decide +kernel
theorem dX7_waits_26 : decode cX7_waits 26 = .ok (.dup, 1) := by decide +kernel
theorem dX7_waits_27 : decode cX7_waits 27 = .ok (.getfield 40, 3) := by decide +kernel
theorem dX7_waits_30 : decode cX7_waits 30 = .ok (.aload_n 0, 1) := by decide +kernel
theorem dX7_waits_31 : decode cX7_waits 31 = .ok (.invokevirtual 125, 3) := by decide +kernel
theorem dX7_waits_34 : decode cX7_waits 34 = .ok (.iadd, 1) := by decide +kernel
theorem dX7_waits_35 : decode cX7_waits 35 = .ok (.putfield 40, 3) := by decide +kernel
theorem dX7_waits_38 : decode cX7_waits 38 = .ok (.iinc 2 1, 3) := by decide +kernel
theorem dX7_waits_41 : decode cX7_waits 41 = .ok (.goto (-21), 3) := by decide +kernel
theorem dX7_waits_44 : decode cX7_waits 44 = .ok (.iconst 0, 1) := by decide +kernel
theorem dX7_waits_45 : decode cX7_waits 45 = .ok (.ireturn, 1) := by decide +kernel
theorem dX7_advance_0 : decode cX7_advance 0 = .ok (.aload_n 0, 1) := by decide +kernel
theorem dX7_advance_1 : decode cX7_advance 1 = .ok (.invokevirtual 92, 3) := by decide +kernel
theorem dX7_advance_4 : decode cX7_advance 4 = .ok (.aload_n 0, 1) := by decide +kernel
theorem dX7_advance_5 : decode cX7_advance 5 = .ok (.aload_n 0, 1) := by decide +kernel
theorem dX7_advance_6 : decode cX7_advance 6 = .ok (.iload_n 1, 1) := by decide +kernel
theorem dX7_advance_7 : decode cX7_advance 7 = .ok (.invokevirtual 128, 3) := by decide +kernel
theorem dX7_advance_10 : decode cX7_advance 10 = .ok (.iconst 0, 1) := by decide +kernel
theorem dX7_advance_11 : decode cX7_advance 11 = .ok (.iconst 1, 1) := by decide +kernel
theorem dX7_advance_12 : decode cX7_advance 12 = .ok (.iconst 0, 1) := by decide +kernel
theorem dX7_advance_13 : decode cX7_advance 13 = .ok (.iconst 0, 1) := by decide +kernel
theorem dX7_advance_14 : decode cX7_advance 14 = .ok (.invokevirtual 102, 3) := by decide +kernel
theorem dX7_advance_17 : decode cX7_advance 17 = .ok (.ireturn, 1) := by decide +kernel
theorem dX7_area_0 : decode cX7_area 0 = .ok (.aload_n 0, 1) := by decide +kernel
theorem dX7_area_1 : decode cX7_area 1 = .ok (.iload_n 1, 1) := by decide +kernel
theorem dX7_area_2 : decode cX7_area 2 = .ok (.invokestatic 131, 3) := by decide +kernel
theorem dX7_area_5 : decode cX7_area 5 = .ok (.invokevirtual 134, 3) := by decide +kernel
theorem dX7_area_8 : decode cX7_area 8 = .ok (.ifCond .eq 10, 3) := by decide +kernel
theorem dX7_area_11 : decode cX7_area 11 = .ok (.iload_n 1, 1) := by decide +kernel
theorem dX7_area_12 : decode cX7_area 12 = .ok (.invokestatic 47, 3) := by decide +kernel
theorem dX7_area_15 : decode cX7_area 15 = .ok (.goto 4, 3) := by decide +kernel
theorem dX7_area_18 : decode cX7_area 18 = .ok (.iconst 0, 1) := by decide +kernel
theorem dX7_area_19 : decode cX7_area 19 = .ok (.ireturn, 1) := by decide +kernel
theorem dX7_volume_0 : decode cX7_volume 0 = .ok (.aload_n 0, 1) := by decide +kernel
theorem dX7_volume_1 : decode cX7_volume 1 = .ok (.iload_n 1, 1) := by decide +kernel
theorem dX7_volume_2 : decode cX7_volume 2 = .ok (.invokestatic 131, 3) := by decide +kernel
theorem dX7_volume_5 : decode cX7_volume 5 = .ok (.invokevirtual 134, 3) := by decide +kernel
theorem dX7_volume_8 : decode cX7_volume 8 = .ok (.ifCond .eq 15, 3) := by decide +kernel
theorem dX7_volume_11 : decode cX7_volume 11 = .ok (.aload_n 0, 1) := by decide +kernel
theorem dX7_volume_12 : decode cX7_volume 12 = .ok (.getfield 9, 3) := by decide +kernel
theorem dX7_volume_15 : decode cX7_volume 15 = .ok (.bipush 11, 2) := by decide +kernel
theorem dX7_volume_17 : decode cX7_volume 17 = .ok (.iload_n 1, 1) := by decide +kernel
theorem dX7_volume_18 : decode cX7_volume 18 = .ok (.iadd, 1) := by decide +kernel
theorem dX7_volume_19 : decode cX7_volume 19 = .ok (.iaload, 1) := by decide +kernel
theorem dX7_volume_20 : decode cX7_volume 20 = .ok (.goto 4, 3) := by decide +kernel
theorem dX7_volume_23 : decode cX7_volume 23 = .ok (.iconst 0, 1) := by decide +kernel
theorem dX7_volume_24 : decode cX7_volume 24 = .ok (.ireturn, 1) := by decide +kernel
theorem dX7_level_0 : decode cX7_level 0 = .ok (.aload_n 0, 1) := by decide +kernel
theorem dX7_level_1 : decode cX7_level 1 = .ok (.iload_n 1, 1) := by decide +kernel
theorem dX7_level_2 : decode cX7_level 2 = .ok (.invokestatic 131, 3) := by decide +kernel
theorem dX7_level_5 : decode cX7_level 5 = .ok (.invokevirtual 134, 3) := by decide +kernel
theorem dX7_level_8 : decode cX7_level 8 = .ok (.ifCond .eq 20, 3) := by decide +kernel
theorem dX7_level_11 : decode cX7_level 11 = .ok (.aload_n 0, 1) := by decide +kernel
theorem dX7_level_12 : decode cX7_level 12 = .ok (.getfield 9, 3) := by decide +kernel
theorem dX7_level_15 : decode cX7_level 15 = .ok (.bipush 11, 2) := by decide +kernel
theorem dX7_level_17 : decode cX7_level 17 = .ok (.iload_n 1, 1) := by decide +kernel
theorem dX7_level_18 : decode cX7_level 18 = .ok (.iadd, 1) := by decide +kernel
theorem dX7_level_19 : decode cX7_level 19 = .ok (.iaload, 1) := by decide +kernel
theorem dX7_level_20 : decode cX7_level 20 = .ok (.iload_n 1, 1) := by decide +kernel
theorem dX7_level_21 : decode cX7_level 21 = .ok (.invokestatic 47, 3) := by decide +kernel
theorem dX7_level_24 : decode cX7_level 24 = .ok (.idiv, 1) := by decide +kernel
theorem dX7_level_25 : decode cX7_level 25 = .ok (.goto 4, 3) := by decide +kernel
theorem dX7_level_28 : decode cX7_level 28 = .ok (.iconst 0, 1) := by decide +kernel
theorem dX7_level_29 : decode cX7_level 29 = .ok (.ireturn, 1) := by decide +kernel
theorem dX7_exactLevel_0 : decode cX7_exactLevel 0 = .ok (.aload_n 0, 1) := by decide +kernel
theorem dX7_exactLevel_1 : decode cX7_exactLevel 1 = .ok (.iload_n 1, 1) := by decide +kernel
theorem dX7_exactLevel_2 : decode cX7_exactLevel 2 = .ok (.invokestatic 131, 3) := by decide +kernel
theorem dX7_exactLevel_5 : decode cX7_exactLevel 5 = .ok (.invokevirtual 134, 3) := by decide +kernel
theorem dX7_exactLevel_8 : decode cX7_exactLevel 8 = .ok (.ifCond .eq 22, 3) := by decide +kernel
theorem dX7_exactLevel_11 : decode cX7_exactLevel 11 = .ok (.aload_n 0, 1) := by decide +kernel
theorem dX7_exactLevel_12 : decode cX7_exactLevel 12 = .ok (.getfield 9, 3) := by decide +kernel
theorem dX7_exactLevel_15 : decode cX7_exactLevel 15 = .ok (.bipush 11, 2) := by decide +kernel
theorem dX7_exactLevel_17 : decode cX7_exactLevel 17 = .ok (.iload_n 1, 1) := by decide +kernel
theorem dX7_exactLevel_18 : decode cX7_exactLevel 18 = .ok (.iadd, 1) := by decide +kernel
theorem dX7_exactLevel_19 : decode cX7_exactLevel 19 = .ok (.iaload, 1) := by decide +kernel
theorem dX7_exactLevel_20 : decode cX7_exactLevel 20 = .ok (.i2d, 1) := by decide +kernel
theorem dX7_exactLevel_21 : decode cX7_exactLevel 21 = .ok (.iload_n 1, 1) := by decide +kernel
theorem dX7_exactLevel_22 : decode cX7_exactLevel 22 = .ok (.invokestatic 47, 3) := by decide +kernel
theorem dX7_exactLevel_25 : decode cX7_exactLevel 25 = .ok (.i2d, 1) := by decide +kernel
theorem dX7_exactLevel_26 : decode cX7_exactLevel 26 = .ok (.ddiv, 1) := by decide +kernel
theorem dX7_exactLevel_27 : decode cX7_exactLevel 27 = .ok (.goto 4, 3) := by decide +kernel
theorem dX7_exactLevel_30 : decode cX7_exactLevel 30 = .ok (.dconst 0, 1) := by decide +kernel
theorem dX7_exactLevel_31 : decode cX7_exactLevel 31 = .ok (.dreturn, 1) := by decide +kernel
theorem dX7_isHigher_0 : decode cX7_isHigher 0 = .ok (.aload_n 0, 1) := by decide +kernel
theorem dX7_isHigher_1 : decode cX7_isHigher 1 = .ok (.iload_n 1, 1) := by decide +kernel
theorem dX7_isHigher_2 : decode cX7_isHigher 2 = .ok (.invokestatic 131, 3) := by decide +kernel
theorem dX7_isHigher_5 : decode cX7_isHigher 5 = .ok (.ifCond .eq 14, 3) := by decide +kernel
theorem dX7_isHigher_8 : decode cX7_isHigher 8 = .ok (.iload_n 2, 1) := by decide +kernel
theorem dX7_isHigher_9 : decode cX7_isHigher 9 = .ok (.invokestatic 131, 3) := by decide +kernel
theorem dX7_isHigher_12 : decode cX7_isHigher 12 = .ok (.ifCond .eq 7, 3) := by decide +kernel
theorem dX7_isHigher_15 : decode cX7_isHigher 15 = .ok (.iconst 1, 1) := by decide +kernel
theorem dX7_isHigher_16 : decode cX7_isHigher 16 = .ok (.goto 4, 3) := by decide +kernel
theorem dX7_isHigher_19 : decode cX7_isHigher 19 = .ok (.iconst 0, 1) := by decide +kernel
theorem dX7_isHigher_20 : decode cX7_isHigher 20 = .ok (.invokevirtual 134, 3) := by decide +kernel
theorem dX7_isHigher_23 : decode cX7_isHigher 23 = .ok (.ifCond .eq 16, 3) := by decide +kernel
theorem dX7_isHigher_26 : decode cX7_isHigher 26 = .ok (.aload_n 0, 1) := by decide +kernel
theorem dX7_isHigher_27 : decode cX7_isHigher 27 = .ok (.iload_n 1, 1) := by decide +kernel
theorem dX7_isHigher_28 : decode cX7_isHigher 28 = .ok (.iload_n 2, 1) := by decide +kernel
theorem dX7_isHigher_29 : decode cX7_isHigher 29 = .ok (.invokevirtual 51, 3) := by decide +kernel
theorem dX7_isHigher_32 : decode cX7_isHigher 32 = .ok (.ifCond .le 7, 3) := by decide +kernel
theorem dX7_isHigher_35 : decode cX7_isHigher 35 = .ok (.iconst 1, 1) := by decide +kernel
theorem dX7_isHigher_36 : decode cX7_isHigher 36 = .ok (.goto 4, 3) := by decide +kernel
theorem dX7_isHigher_39 : decode cX7_isHigher 39 = .ok (.iconst 0, 1) := by decide +kernel
theorem dX7_isHigher_40 : decode cX7_isHigher 40 = .ok (.ireturn, 1) := by decide +kernel
theorem dX7_equalizingAmount_0 : decode cX7_equalizingAmount 0 = .ok (.aload_n 0, 1) := by decide +kernel
theorem dX7_equalizingAmount_1 : decode cX7_equalizingAmount 1 = .ok (.iload_n 1, 1) := by decide +kernel
theorem dX7_equalizingAmount_2 : decode cX7_equalizingAmount 2 = .ok (.invokestatic 106, 3) := by decide +kernel
theorem dX7_equalizingAmount_5 : decode cX7_equalizingAmount 5 = .ok (.invokevirtual 134, 3) := by decide +kernel
theorem dX7_equalizingAmount_8 : decode cX7_equalizingAmount 8 = .ok (.ifCond .eq 11, 3) := by decide +kernel
theorem dX7_equalizingAmount_11 : decode cX7_equalizingAmount 11 = .ok (.aload_n 0, 1) := by decide +kernel
theorem dX7_equalizingAmount_12 : decode cX7_equalizingAmount 12 = .ok (.iload_n 1, 1) := by decide +kernel
theorem dX7_equalizingAmount_13 : decode cX7_equalizingAmount 13 = .ok (.invokevirtual 55, 3) := by decide +kernel
theorem dX7_equalizingAmount_16 : decode cX7_equalizingAmount 16 = .ok (.goto 4, 3) := by decide +kernel
theorem dX7_equalizingAmount_19 : decode cX7_equalizingAmount 19 = .ok (.iconst 0, 1) := by decide +kernel
theorem dX7_equalizingAmount_20 : decode cX7_equalizingAmount 20 = .ok (.ireturn, 1) := by decide +kernel
theorem dX7_equalizingAmountByLitres_0 : decode cX7_equalizingAmountByLitres 0 = .ok (.aload_n 0, 1) := by decide +kernel
theorem dX7_equalizingAmountByLitres_1 : decode cX7_equalizingAmountByLitres 1 = .ok (.iload_n 1, 1) := by decide +kernel
theorem dX7_equalizingAmountByLitres_2 : decode cX7_equalizingAmountByLitres 2 = .ok (.invokevirtual 138, 3) := by decide +kernel
theorem dX7_equalizingAmountByLitres_5 : decode cX7_equalizingAmountByLitres 5 = .ok (.ireturn, 1) := by decide +kernel
theorem dX7_opening_0 : decode cX7_opening 0 = .ok (.aload_n 0, 1) := by decide +kernel
theorem dX7_opening_1 : decode cX7_opening 1 = .ok (.iload_n 1, 1) := by decide +kernel
theorem dX7_opening_2 : decode cX7_opening 2 = .ok (.invokestatic 106, 3) := by decide +kernel
theorem dX7_opening_5 : decode cX7_opening 5 = .ok (.invokevirtual 134, 3) := by decide +kernel
theorem dX7_opening_8 : decode cX7_opening 8 = .ok (.ifCond .eq 15, 3) := by decide +kernel
theorem dX7_opening_11 : decode cX7_opening 11 = .ok (.aload_n 0, 1) := by decide +kernel
theorem dX7_opening_12 : decode cX7_opening 12 = .ok (.getfield 9, 3) := by decide +kernel
theorem dX7_opening_15 : decode cX7_opening 15 = .ok (.bipush 16, 2) := by decide +kernel
theorem dX7_opening_17 : decode cX7_opening 17 = .ok (.iload_n 1, 1) := by decide +kernel
theorem dX7_opening_18 : decode cX7_opening 18 = .ok (.iadd, 1) := by decide +kernel
theorem dX7_opening_19 : decode cX7_opening 19 = .ok (.iaload, 1) := by decide +kernel
theorem dX7_opening_20 : decode cX7_opening 20 = .ok (.goto 4, 3) := by decide +kernel
theorem dX7_opening_23 : decode cX7_opening 23 = .ok (.iconst 0, 1) := by decide +kernel
theorem dX7_opening_24 : decode cX7_opening 24 = .ok (.ireturn, 1) := by decide +kernel
theorem dX7_isOpen_0 : decode cX7_isOpen 0 = .ok (.aload_n 0, 1) := by decide +kernel
theorem dX7_isOpen_1 : decode cX7_isOpen 1 = .ok (.iload_n 1, 1) := by decide +kernel
theorem dX7_isOpen_2 : decode cX7_isOpen 2 = .ok (.invokestatic 106, 3) := by decide +kernel
theorem dX7_isOpen_5 : decode cX7_isOpen 5 = .ok (.invokevirtual 134, 3) := by decide +kernel
theorem dX7_isOpen_8 : decode cX7_isOpen 8 = .ok (.ifCond .eq 20, 3) := by decide +kernel
theorem dX7_isOpen_11 : decode cX7_isOpen 11 = .ok (.aload_n 0, 1) := by decide +kernel
theorem dX7_isOpen_12 : decode cX7_isOpen 12 = .ok (.getfield 9, 3) := by decide +kernel
theorem dX7_isOpen_15 : decode cX7_isOpen 15 = .ok (.bipush 20, 2) := by decide +kernel
theorem dX7_isOpen_17 : decode cX7_isOpen 17 = .ok (.iload_n 1, 1) := by decide +kernel
theorem dX7_isOpen_18 : decode cX7_isOpen 18 = .ok (.iadd, 1) := by decide +kernel
theorem dX7_isOpen_19 : decode cX7_isOpen 19 = .ok (.iaload, 1) := by decide +kernel
theorem dX7_isOpen_20 : decode cX7_isOpen 20 = .ok (.iconst 1, 1) := by decide +kernel
theorem dX7_isOpen_21 : decode cX7_isOpen 21 = .ok (.if_icmp .ne 7, 3) := by decide +kernel
theorem dX7_isOpen_24 : decode cX7_isOpen 24 = .ok (.iconst 1, 1) := by decide +kernel
theorem dX7_isOpen_25 : decode cX7_isOpen 25 = .ok (.goto 4, 3) := by decide +kernel
theorem dX7_isOpen_28 : decode cX7_isOpen 28 = .ok (.iconst 0, 1) := by decide +kernel
theorem dX7_isOpen_29 : decode cX7_isOpen 29 = .ok (.ireturn, 1) := by decide +kernel
theorem dX7_flow_0 : decode cX7_flow 0 = .ok (.aload_n 0, 1) := by decide +kernel
theorem dX7_flow_1 : decode cX7_flow 1 = .ok (.iload_n 1, 1) := by decide +kernel
theorem dX7_flow_2 : decode cX7_flow 2 = .ok (.invokestatic 106, 3) := by decide +kernel
theorem dX7_flow_5 : decode cX7_flow 5 = .ok (.invokevirtual 134, 3) := by decide +kernel
theorem dX7_flow_8 : decode cX7_flow 8 = .ok (.ifCond .eq 11, 3) := by decide +kernel
theorem dX7_flow_11 : decode cX7_flow 11 = .ok (.aload_n 0, 1) := by decide +kernel
theorem dX7_flow_12 : decode cX7_flow 12 = .ok (.iload_n 1, 1) := by decide +kernel
theorem dX7_flow_13 : decode cX7_flow 13 = .ok (.invokevirtual 85, 3) := by decide +kernel
theorem dX7_flow_16 : decode cX7_flow 16 = .ok (.goto 4, 3) := by decide +kernel
theorem dX7_flow_19 : decode cX7_flow 19 = .ok (.iconst 0, 1) := by decide +kernel
theorem dX7_flow_20 : decode cX7_flow 20 = .ok (.ireturn, 1) := by decide +kernel
theorem dX7_told_0 : decode cX7_told 0 = .ok (.aload_n 0, 1) := by decide +kernel
theorem dX7_told_1 : decode cX7_told 1 = .ok (.iconst 0, 1) := by decide +kernel
theorem dX7_told_2 : decode cX7_told 2 = .ok (.putfield 30, 3) := by decide +kernel
theorem dX7_told_5 : decode cX7_told 5 = .ok (.aload_n 0, 1) := by decide +kernel
theorem dX7_told_6 : decode cX7_told 6 = .ok (.getfield 9, 3) := by decide +kernel
theorem dX7_told_9 : decode cX7_told 9 = .ok (.iload_n 1, 1) := by decide +kernel
theorem dX7_told_10 : decode cX7_told 10 = .ok (.iaload, 1) := by decide +kernel
theorem dX7_told_11 : decode cX7_told 11 = .ok (.ireturn, 1) := by decide +kernel
theorem dX7_rain_0 : decode cX7_rain 0 = .ok (.aload_n 0, 1) := by decide +kernel
theorem dX7_rain_1 : decode cX7_rain 1 = .ok (.iconst 1, 1) := by decide +kernel
theorem dX7_rain_2 : decode cX7_rain 2 = .ok (.invokevirtual 141, 3) := by decide +kernel
theorem dX7_rain_5 : decode cX7_rain 5 = .ok (.ireturn, 1) := by decide +kernel
theorem dX7_drain_0 : decode cX7_drain 0 = .ok (.aload_n 0, 1) := by decide +kernel
theorem dX7_drain_1 : decode cX7_drain 1 = .ok (.iconst 2, 1) := by decide +kernel
theorem dX7_drain_2 : decode cX7_drain 2 = .ok (.invokevirtual 141, 3) := by decide +kernel
theorem dX7_drain_5 : decode cX7_drain 5 = .ok (.ireturn, 1) := by decide +kernel
theorem dX7_sum_0 : decode cX7_sum 0 = .ok (.aload_n 0, 1) := by decide +kernel
theorem dX7_sum_1 : decode cX7_sum 1 = .ok (.getfield 9, 3) := by decide +kernel
theorem dX7_sum_4 : decode cX7_sum 4 = .ok (.bipush 11, 2) := by decide +kernel
theorem dX7_sum_6 : decode cX7_sum 6 = .ok (.iaload, 1) := by decide +kernel
theorem dX7_sum_7 : decode cX7_sum 7 = .ok (.aload_n 0, 1) := by decide +kernel
theorem dX7_sum_8 : decode cX7_sum 8 = .ok (.getfield 9, 3) := by decide +kernel
theorem dX7_sum_11 : decode cX7_sum 11 = .ok (.bipush 12, 2) := by decide +kernel
theorem dX7_sum_13 : decode cX7_sum 13 = .ok (.iaload, 1) := by decide +kernel
theorem dX7_sum_14 : decode cX7_sum 14 = .ok (.iadd, 1) := by decide +kernel
theorem dX7_sum_15 : decode cX7_sum 15 = .ok (.aload_n 0, 1) := by decide +kernel
theorem dX7_sum_16 : decode cX7_sum 16 = .ok (.getfield 9, 3) := by decide +kernel
theorem dX7_sum_19 : decode cX7_sum 19 = .ok (.bipush 13, 2) := by decide +kernel
theorem dX7_sum_21 : decode cX7_sum 21 = .ok (.iaload, 1) := by decide +kernel
theorem dX7_sum_22 : decode cX7_sum 22 = .ok (.iadd, 1) := by decide +kernel
theorem dX7_sum_23 : decode cX7_sum 23 = .ok (.aload_n 0, 1) := by decide +kernel
theorem dX7_sum_24 : decode cX7_sum 24 = .ok (.getfield 9, 3) := by decide +kernel
theorem dX7_sum_27 : decode cX7_sum 27 = .ok (.bipush 14, 2) := by decide +kernel
theorem dX7_sum_29 : decode cX7_sum 29 = .ok (.iaload, 1) := by decide +kernel
theorem dX7_sum_30 : decode cX7_sum 30 = .ok (.iadd, 1) := by decide +kernel
theorem dX7_sum_31 : decode cX7_sum 31 = .ok (.aload_n 0, 1) := by decide +kernel
theorem dX7_sum_32 : decode cX7_sum 32 = .ok (.getfield 9, 3) := by decide +kernel
theorem dX7_sum_35 : decode cX7_sum 35 = .ok (.bipush 15, 2) := by decide +kernel
theorem dX7_sum_37 : decode cX7_sum 37 = .ok (.iaload, 1) := by decide +kernel
theorem dX7_sum_38 : decode cX7_sum 38 = .ok (.iadd, 1) := by decide +kernel
theorem dX7_sum_39 : decode cX7_sum 39 = .ok (.ireturn, 1) := by decide +kernel
theorem dX7_totalVolume_0 : decode cX7_totalVolume 0 = .ok (.aload_n 0, 1) := by decide +kernel
theorem dX7_totalVolume_1 : decode cX7_totalVolume 1 = .ok (.iconst 0, 1) := by decide +kernel
theorem dX7_totalVolume_2 : decode cX7_totalVolume 2 = .ok (.putfield 30, 3) := by decide +kernel
theorem dX7_totalVolume_5 : decode cX7_totalVolume 5 = .ok (.aload_n 0, 1) := by decide +kernel
theorem dX7_totalVolume_6 : decode cX7_totalVolume 6 = .ok (.invokevirtual 144, 3) := by decide +kernel
theorem dX7_totalVolume_9 : decode cX7_totalVolume 9 = .ok (.ireturn, 1) := by decide +kernel
theorem dX7_totalVolumeByAccounts_0 : decode cX7_totalVolumeByAccounts 0 = .ok (.aload_n 0, 1) := by decide +kernel
theorem dX7_totalVolumeByAccounts_1 : decode cX7_totalVolumeByAccounts 1 = .ok (.invokevirtual 147, 3) := by decide +kernel
theorem dX7_totalVolumeByAccounts_4 : decode cX7_totalVolumeByAccounts 4 = .ok (.ireturn, 1) := by decide +kernel
theorem dX7_rainTotal_0 : decode cX7_rainTotal 0 = .ok (.aload_n 0, 1) := by decide +kernel
theorem dX7_rainTotal_1 : decode cX7_rainTotal 1 = .ok (.iconst 3, 1) := by decide +kernel
theorem dX7_rainTotal_2 : decode cX7_rainTotal 2 = .ok (.invokevirtual 141, 3) := by decide +kernel
theorem dX7_rainTotal_5 : decode cX7_rainTotal 5 = .ok (.ireturn, 1) := by decide +kernel
theorem dX7_drainTotal_0 : decode cX7_drainTotal 0 = .ok (.aload_n 0, 1) := by decide +kernel
theorem dX7_drainTotal_1 : decode cX7_drainTotal 1 = .ok (.iconst 4, 1) := by decide +kernel
theorem dX7_drainTotal_2 : decode cX7_drainTotal 2 = .ok (.invokevirtual 141, 3) := by decide +kernel
theorem dX7_drainTotal_5 : decode cX7_drainTotal 5 = .ok (.ireturn, 1) := by decide +kernel
theorem dX7_spilledTotal_0 : decode cX7_spilledTotal 0 = .ok (.aload_n 0, 1) := by decide +kernel
theorem dX7_spilledTotal_1 : decode cX7_spilledTotal 1 = .ok (.iconst 5, 1) := by decide +kernel
theorem dX7_spilledTotal_2 : decode cX7_spilledTotal 2 = .ok (.invokevirtual 141, 3) := by decide +kernel
theorem dX7_spilledTotal_5 : decode cX7_spilledTotal 5 = .ok (.ireturn, 1) := by decide +kernel
theorem dX7_basinByLevel_0 : decode cX7_basinByLevel 0 = .ok (.iconst 0, 1) := by decide +kernel
theorem dX7_basinByLevel_1 : decode cX7_basinByLevel 1 = .ok (.istore_n 2, 1) := by decide +kernel
theorem dX7_basinByLevel_2 : decode cX7_basinByLevel 2 = .ok (.iload_n 2, 1) := by decide +kernel
theorem dX7_basinByLevel_3 : decode cX7_basinByLevel 3 = .ok (.iconst 5, 1) := by decide +kernel
theorem dX7_basinByLevel_4 : decode cX7_basinByLevel 4 = .ok (.if_icmp .ge 79, 3) := by decide +kernel
theorem dX7_basinByLevel_7 : decode cX7_basinByLevel 7 = .ok (.iconst 0, 1) := by decide +kernel
theorem dX7_basinByLevel_8 : decode cX7_basinByLevel 8 = .ok (.istore_n 3, 1) := by decide +kernel
theorem dX7_basinByLevel_9 : decode cX7_basinByLevel 9 = .ok (.iconst 0, 1) := by decide +kernel
theorem dX7_basinByLevel_10 : decode cX7_basinByLevel 10 = .ok (.istore 4, 2) := by decide +kernel
theorem dX7_basinByLevel_12 : decode cX7_basinByLevel 12 = .ok (.iload 4, 2) := by decide +kernel
theorem dX7_basinByLevel_14 : decode cX7_basinByLevel 14 = .ok (.iconst 5, 1) := by decide +kernel
theorem dX7_basinByLevel_15 : decode cX7_basinByLevel 15 = .ok (.if_icmp .ge 43, 3) := by decide +kernel
theorem dX7_basinByLevel_18 : decode cX7_basinByLevel 18 = .ok (.iload_n 3, 1) := by decide +kernel
theorem dX7_basinByLevel_19 : decode cX7_basinByLevel 19 = .ok (.aload_n 0, 1) := by decide +kernel
theorem dX7_basinByLevel_20 : decode cX7_basinByLevel 20 = .ok (.iload 4, 2) := by decide +kernel
theorem dX7_basinByLevel_22 : decode cX7_basinByLevel 22 = .ok (.iload_n 2, 1) := by decide +kernel
theorem dX7_basinByLevel_23 : decode cX7_basinByLevel 23 = .ok (.invokevirtual 51, 3) := by decide +kernel
theorem dX7_basinByLevel_26 : decode cX7_basinByLevel 26 = .ok (.ifCond .gt 19, 3) := by decide +kernel
theorem dX7_basinByLevel_29 : decode cX7_basinByLevel 29 = .ok (.aload_n 0, 1) := by decide +kernel
theorem dX7_basinByLevel_30 : decode cX7_basinByLevel 30 = .ok (.iload 4, 2) := by decide +kernel
theorem dX7_basinByLevel_32 : decode cX7_basinByLevel 32 = .ok (.iload_n 2, 1) := by decide +kernel
theorem dX7_basinByLevel_33 : decode cX7_basinByLevel 33 = .ok (.invokevirtual 51, 3) := by decide +kernel
theorem dX7_basinByLevel_36 : decode cX7_basinByLevel 36 = .ok (.ifCond .ne 13, 3) := by decide +kernel
theorem dX7_basinByLevel_39 : decode cX7_basinByLevel 39 = .ok (.iload 4, 2) := by decide +kernel
theorem dX7_basinByLevel_41 : decode cX7_basinByLevel 41 = .ok (.iload_n 2, 1) := by decide +kernel
theorem dX7_basinByLevel_42 : decode cX7_basinByLevel 42 = .ok (.if_icmp .ge 7, 3) := by decide +kernel
theorem dX7_basinByLevel_45 : decode cX7_basinByLevel 45 = .ok (.iconst 1, 1) := by decide +kernel
theorem dX7_basinByLevel_46 : decode cX7_basinByLevel 46 = .ok (.goto 4, 3) := by decide +kernel
theorem dX7_basinByLevel_49 : decode cX7_basinByLevel 49 = .ok (.iconst 0, 1) := by decide +kernel
theorem dX7_basinByLevel_50 : decode cX7_basinByLevel 50 = .ok (.iadd, 1) := by decide +kernel
theorem dX7_basinByLevel_51 : decode cX7_basinByLevel 51 = .ok (.istore_n 3, 1) := by decide +kernel
theorem dX7_basinByLevel_52 : decode cX7_basinByLevel 52 = .ok (.iinc 4 1, 3) := by decide +kernel
theorem dX7_basinByLevel_55 : decode cX7_basinByLevel 55 = .ok (.goto (-43), 3) := by decide +kernel
theorem dX7_basinByLevel_58 : decode cX7_basinByLevel 58 = .ok (.aload_n 0, 1) := by decide +kernel
theorem dX7_basinByLevel_59 : decode cX7_basinByLevel 59 = .ok (.iload_n 3, 1) := by decide +kernel
theorem dX7_basinByLevel_60 : decode cX7_basinByLevel 60 = .ok (.iload_n 1, 1) := by decide +kernel
theorem dX7_basinByLevel_61 : decode cX7_basinByLevel 61 = .ok (.if_icmp .ne 7, 3) := by decide +kernel
theorem dX7_basinByLevel_64 : decode cX7_basinByLevel 64 = .ok (.iconst 1, 1) := by decide +kernel
theorem dX7_basinByLevel_65 : decode cX7_basinByLevel 65 = .ok (.goto 4, 3) := by decide +kernel
theorem dX7_basinByLevel_68 : decode cX7_basinByLevel 68 = .ok (.iconst 0, 1) := by decide +kernel
theorem dX7_basinByLevel_69 : decode cX7_basinByLevel 69 = .ok (.invokevirtual 134, 3) := by decide +kernel
theorem dX7_basinByLevel_72 : decode cX7_basinByLevel 72 = .ok (.ifCond .eq 5, 3) := by decide +kernel
theorem dX7_basinByLevel_75 : decode cX7_basinByLevel 75 = .ok (.iload_n 2, 1) := by decide +kernel
theorem dX7_basinByLevel_76 : decode cX7_basinByLevel 76 = .ok (.ireturn, 1) := by decide +kernel
theorem dX7_basinByLevel_77 : decode cX7_basinByLevel 77 = .ok (.iinc 2 1, 3) := by decide +kernel
theorem dX7_basinByLevel_80 : decode cX7_basinByLevel 80 = .ok (.goto (-78), 3) := by decide +kernel
theorem dX7_basinByLevel_83 : decode cX7_basinByLevel 83 = .ok (.aload_n 0, 1) := by decide +kernel
theorem dX7_basinByLevel_84 : decode cX7_basinByLevel 84 = .ok (.iconst 1, 1) := by decide +kernel
theorem dX7_basinByLevel_85 : decode cX7_basinByLevel 85 = .ok (.putfield 30, 3) := by decide +kernel
theorem dX7_basinByLevel_88 : decode cX7_basinByLevel 88 = .ok (.iconst 0, 1) := by decide +kernel
theorem dX7_basinByLevel_89 : decode cX7_basinByLevel 89 = .ok (.ireturn, 1) := by decide +kernel
theorem dX7_boatCount_0 : decode cX7_boatCount 0 = .ok (.aload_n 0, 1) := by decide +kernel
theorem dX7_boatCount_1 : decode cX7_boatCount 1 = .ok (.bipush 6, 2) := by decide +kernel
theorem dX7_boatCount_3 : decode cX7_boatCount 3 = .ok (.invokevirtual 141, 3) := by decide +kernel
theorem dX7_boatCount_6 : decode cX7_boatCount 6 = .ok (.ireturn, 1) := by decide +kernel
theorem dX7_ofBoat_0 : decode cX7_ofBoat 0 = .ok (.aload_n 0, 1) := by decide +kernel
theorem dX7_ofBoat_1 : decode cX7_ofBoat 1 = .ok (.aload_n 0, 1) := by decide +kernel
theorem dX7_ofBoat_2 : decode cX7_ofBoat 2 = .ok (.iload_n 1, 1) := by decide +kernel
theorem dX7_ofBoat_3 : decode cX7_ofBoat 3 = .ok (.invokevirtual 150, 3) := by decide +kernel
theorem dX7_ofBoat_6 : decode cX7_ofBoat 6 = .ok (.invokevirtual 134, 3) := by decide +kernel
theorem dX7_ofBoat_9 : decode cX7_ofBoat 9 = .ok (.ifCond .eq 12, 3) := by decide +kernel
theorem dX7_ofBoat_12 : decode cX7_ofBoat 12 = .ok (.aload_n 0, 1) := by decide +kernel
theorem dX7_ofBoat_13 : decode cX7_ofBoat 13 = .ok (.iload_n 1, 1) := by decide +kernel
theorem dX7_ofBoat_14 : decode cX7_ofBoat 14 = .ok (.iload_n 2, 1) := by decide +kernel
theorem dX7_ofBoat_15 : decode cX7_ofBoat 15 = .ok (.invokevirtual 61, 3) := by decide +kernel
theorem dX7_ofBoat_18 : decode cX7_ofBoat 18 = .ok (.goto 4, 3) := by decide +kernel
theorem dX7_ofBoat_21 : decode cX7_ofBoat 21 = .ok (.iconst 0, 1) := by decide +kernel
theorem dX7_ofBoat_22 : decode cX7_ofBoat 22 = .ok (.ireturn, 1) := by decide +kernel
theorem dX7_colour_0 : decode cX7_colour 0 = .ok (.aload_n 0, 1) := by decide +kernel
theorem dX7_colour_1 : decode cX7_colour 1 = .ok (.aload_n 0, 1) := by decide +kernel
theorem dX7_colour_2 : decode cX7_colour 2 = .ok (.iload_n 1, 1) := by decide +kernel
theorem dX7_colour_3 : decode cX7_colour 3 = .ok (.invokevirtual 150, 3) := by decide +kernel
theorem dX7_colour_6 : decode cX7_colour 6 = .ok (.invokevirtual 134, 3) := by decide +kernel
theorem dX7_colour_9 : decode cX7_colour 9 = .ok (.ifCond .eq 15, 3) := by decide +kernel
theorem dX7_colour_12 : decode cX7_colour 12 = .ok (.aload_n 0, 1) := by decide +kernel
theorem dX7_colour_13 : decode cX7_colour 13 = .ok (.iload_n 1, 1) := by decide +kernel
theorem dX7_colour_14 : decode cX7_colour 14 = .ok (.iconst 0, 1) := by decide +kernel
theorem dX7_colour_15 : decode cX7_colour 15 = .ok (.invokevirtual 61, 3) := by decide +kernel
theorem dX7_colour_18 : decode cX7_colour 18 = .ok (.invokestatic 153, 3) := by decide +kernel
theorem dX7_colour_21 : decode cX7_colour 21 = .ok (.goto 4, 3) := by decide +kernel
theorem dX7_colour_24 : decode cX7_colour 24 = .ok (.iconst 0, 1) := by decide +kernel
theorem dX7_colour_25 : decode cX7_colour 25 = .ok (.ireturn, 1) := by decide +kernel
theorem dX7_draught_0 : decode cX7_draught 0 = .ok (.aload_n 0, 1) := by decide +kernel
theorem dX7_draught_1 : decode cX7_draught 1 = .ok (.iload_n 1, 1) := by decide +kernel
theorem dX7_draught_2 : decode cX7_draught 2 = .ok (.iconst 1, 1) := by decide +kernel
theorem dX7_draught_3 : decode cX7_draught 3 = .ok (.invokevirtual 157, 3) := by decide +kernel
theorem dX7_draught_6 : decode cX7_draught 6 = .ok (.ireturn, 1) := by decide +kernel
theorem dX7_isGoingDown_0 : decode cX7_isGoingDown 0 = .ok (.aload_n 0, 1) := by decide +kernel
theorem dX7_isGoingDown_1 : decode cX7_isGoingDown 1 = .ok (.iload_n 1, 1) := by decide +kernel
theorem dX7_isGoingDown_2 : decode cX7_isGoingDown 2 = .ok (.iconst 2, 1) := by decide +kernel
theorem dX7_isGoingDown_3 : decode cX7_isGoingDown 3 = .ok (.invokevirtual 157, 3) := by decide +kernel
theorem dX7_isGoingDown_6 : decode cX7_isGoingDown 6 = .ok (.iconst 1, 1) := by decide +kernel
theorem dX7_isGoingDown_7 : decode cX7_isGoingDown 7 = .ok (.if_icmp .ne 7, 3) := by decide +kernel
theorem dX7_isGoingDown_10 : decode cX7_isGoingDown 10 = .ok (.iconst 1, 1) := by decide +kernel
theorem dX7_isGoingDown_11 : decode cX7_isGoingDown 11 = .ok (.goto 4, 3) := by decide +kernel
theorem dX7_isGoingDown_14 : decode cX7_isGoingDown 14 = .ok (.iconst 0, 1) := by decide +kernel
theorem dX7_isGoingDown_15 : decode cX7_isGoingDown 15 = .ok (.ireturn, 1) := by decide +kernel
theorem dX7_basinOf_0 : decode cX7_basinOf 0 = .ok (.aload_n 0, 1) := by decide +kernel
theorem dX7_basinOf_1 : decode cX7_basinOf 1 = .ok (.iload_n 1, 1) := by decide +kernel
theorem dX7_basinOf_2 : decode cX7_basinOf 2 = .ok (.iconst 3, 1) := by decide +kernel
theorem dX7_basinOf_3 : decode cX7_basinOf 3 = .ok (.invokevirtual 157, 3) := by decide +kernel
theorem dX7_basinOf_6 : decode cX7_basinOf 6 = .ok (.ireturn, 1) := by decide +kernel
theorem dX7_boatsIn_0 : decode cX7_boatsIn 0 = .ok (.aload_n 0, 1) := by decide +kernel
theorem dX7_boatsIn_1 : decode cX7_boatsIn 1 = .ok (.iload_n 1, 1) := by decide +kernel
theorem dX7_boatsIn_2 : decode cX7_boatsIn 2 = .ok (.invokestatic 131, 3) := by decide +kernel
theorem dX7_boatsIn_5 : decode cX7_boatsIn 5 = .ok (.invokevirtual 134, 3) := by decide +kernel
theorem dX7_boatsIn_8 : decode cX7_boatsIn 8 = .ok (.ifCond .eq 11, 3) := by decide +kernel
theorem dX7_boatsIn_11 : decode cX7_boatsIn 11 = .ok (.aload_n 0, 1) := by decide +kernel
theorem dX7_boatsIn_12 : decode cX7_boatsIn 12 = .ok (.iload_n 1, 1) := by decide +kernel
theorem dX7_boatsIn_13 : decode cX7_boatsIn 13 = .ok (.invokevirtual 71, 3) := by decide +kernel
theorem dX7_boatsIn_16 : decode cX7_boatsIn 16 = .ok (.goto 4, 3) := by decide +kernel
theorem dX7_boatsIn_19 : decode cX7_boatsIn 19 = .ok (.iconst 0, 1) := by decide +kernel
theorem dX7_boatsIn_20 : decode cX7_boatsIn 20 = .ok (.ireturn, 1) := by decide +kernel
theorem dX7_boatInOrder_0 : decode cX7_boatInOrder 0 = .ok (.iconst 0, 1) := by decide +kernel
theorem dX7_boatInOrder_1 : decode cX7_boatInOrder 1 = .ok (.istore_n 2, 1) := by decide +kernel
theorem dX7_boatInOrder_2 : decode cX7_boatInOrder 2 = .ok (.iload_n 2, 1) := by decide +kernel
theorem dX7_boatInOrder_3 : decode cX7_boatInOrder 3 = .ok (.aload_n 0, 1) := by decide +kernel
theorem dX7_boatInOrder_4 : decode cX7_boatInOrder 4 = .ok (.getfield 9, 3) := by decide +kernel
theorem dX7_boatInOrder_7 : decode cX7_boatInOrder 7 = .ok (.bipush 6, 2) := by decide +kernel
theorem dX7_boatInOrder_9 : decode cX7_boatInOrder 9 = .ok (.iaload, 1) := by decide +kernel
theorem dX7_boatInOrder_10 : decode cX7_boatInOrder 10 = .ok (.if_icmp .ge 97, 3) := by decide +kernel
theorem dX7_boatInOrder_13 : decode cX7_boatInOrder 13 = .ok (.iconst 0, 1) := by decide +kernel
theorem dX7_boatInOrder_14 : decode cX7_boatInOrder 14 = .ok (.istore_n 3, 1) := by decide +kernel
theorem dX7_boatInOrder_15 : decode cX7_boatInOrder 15 = .ok (.iconst 0, 1) := by decide +kernel
theorem dX7_boatInOrder_16 : decode cX7_boatInOrder 16 = .ok (.istore 4, 2) := by decide +kernel
theorem dX7_boatInOrder_18 : decode cX7_boatInOrder 18 = .ok (.iload 4, 2) := by decide +kernel
theorem dX7_boatInOrder_20 : decode cX7_boatInOrder 20 = .ok (.aload_n 0, 1) := by decide +kernel
theorem dX7_boatInOrder_21 : decode cX7_boatInOrder 21 = .ok (.getfield 9, 3) := by decide +kernel
theorem dX7_boatInOrder_24 : decode cX7_boatInOrder 24 = .ok (.bipush 6, 2) := by decide +kernel
theorem dX7_boatInOrder_26 : decode cX7_boatInOrder 26 = .ok (.iaload, 1) := by decide +kernel
theorem dX7_boatInOrder_27 : decode cX7_boatInOrder 27 = .ok (.if_icmp .ge 55, 3) := by decide +kernel
theorem dX7_boatInOrder_30 : decode cX7_boatInOrder 30 = .ok (.iload_n 3, 1) := by decide +kernel
theorem dX7_boatInOrder_31 : decode cX7_boatInOrder 31 = .ok (.aload_n 0, 1) := by decide +kernel
theorem dX7_boatInOrder_32 : decode cX7_boatInOrder 32 = .ok (.iload 4, 2) := by decide +kernel
theorem dX7_boatInOrder_34 : decode cX7_boatInOrder 34 = .ok (.iconst 0, 1) := by decide +kernel
theorem dX7_boatInOrder_35 : decode cX7_boatInOrder 35 = .ok (.invokevirtual 61, 3) := by decide +kernel
theorem dX7_boatInOrder_38 : decode cX7_boatInOrder 38 = .ok (.aload_n 0, 1) := by decide +kernel
theorem dX7_boatInOrder_39 : decode cX7_boatInOrder 39 = .ok (.iload_n 2, 1) := by decide +kernel
theorem dX7_boatInOrder_40 : decode cX7_boatInOrder 40 = .ok (.iconst 0, 1) := by decide +kernel
theorem dX7_boatInOrder_41 : decode cX7_boatInOrder 41 = .ok (.invokevirtual 61, 3) := by decide +kernel
theorem dX7_boatInOrder_44 : decode cX7_boatInOrder 44 = .ok (.if_icmp .lt 25, 3) := by decide +kernel
theorem dX7_boatInOrder_47 : decode cX7_boatInOrder 47 = .ok (.aload_n 0, 1) := by decide +kernel
theorem dX7_boatInOrder_48 : decode cX7_boatInOrder 48 = .ok (.iload 4, 2) := by decide +kernel
theorem dX7_boatInOrder_50 : decode cX7_boatInOrder 50 = .ok (.iconst 0, 1) := by decide +kernel
theorem dX7_boatInOrder_51 : decode cX7_boatInOrder 51 = .ok (.invokevirtual 61, 3) := by decide +kernel
theorem dX7_boatInOrder_54 : decode cX7_boatInOrder 54 = .ok (.aload_n 0, 1) := by decide +kernel
theorem dX7_boatInOrder_55 : decode cX7_boatInOrder 55 = .ok (.iload_n 2, 1) := by decide +kernel
theorem dX7_boatInOrder_56 : decode cX7_boatInOrder 56 = .ok (.iconst 0, 1) := by decide +kernel
theorem dX7_boatInOrder_57 : decode cX7_boatInOrder 57 = .ok (.invokevirtual 61, 3) := by decide +kernel
theorem dX7_boatInOrder_60 : decode cX7_boatInOrder 60 = .ok (.if_icmp .ne 13, 3) := by decide +kernel
theorem dX7_boatInOrder_63 : decode cX7_boatInOrder 63 = .ok (.iload 4, 2) := by decide +kernel
theorem dX7_boatInOrder_65 : decode cX7_boatInOrder 65 = .ok (.iload_n 2, 1) := by decide +kernel
theorem dX7_boatInOrder_66 : decode cX7_boatInOrder 66 = .ok (.if_icmp .ge 7, 3) := by decide +kernel
theorem dX7_boatInOrder_69 : decode cX7_boatInOrder 69 = .ok (.iconst 1, 1) := by decide +kernel
theorem dX7_boatInOrder_70 : decode cX7_boatInOrder 70 = .ok (.goto 4, 3) := by decide +kernel
theorem dX7_boatInOrder_73 : decode cX7_boatInOrder 73 = .ok (.iconst 0, 1) := by decide +kernel
theorem dX7_boatInOrder_74 : decode cX7_boatInOrder 74 = .ok (.iadd, 1) := by decide +kernel
theorem dX7_boatInOrder_75 : decode cX7_boatInOrder 75 = .ok (.istore_n 3, 1) := by decide +kernel
theorem dX7_boatInOrder_76 : decode cX7_boatInOrder 76 = .ok (.iinc 4 1, 3) := by decide +kernel
theorem dX7_boatInOrder_79 : decode cX7_boatInOrder 79 = .ok (.goto (-61), 3) := by decide +kernel
theorem dX7_boatInOrder_82 : decode cX7_boatInOrder 82 = .ok (.aload_n 0, 1) := by decide +kernel
theorem dX7_boatInOrder_83 : decode cX7_boatInOrder 83 = .ok (.iload_n 3, 1) := by decide +kernel
theorem dX7_boatInOrder_84 : decode cX7_boatInOrder 84 = .ok (.iload_n 1, 1) := by decide +kernel
theorem dX7_boatInOrder_85 : decode cX7_boatInOrder 85 = .ok (.if_icmp .ne 7, 3) := by decide +kernel
theorem dX7_boatInOrder_88 : decode cX7_boatInOrder 88 = .ok (.iconst 1, 1) := by decide +kernel
theorem dX7_boatInOrder_89 : decode cX7_boatInOrder 89 = .ok (.goto 4, 3) := by decide +kernel
theorem dX7_boatInOrder_92 : decode cX7_boatInOrder 92 = .ok (.iconst 0, 1) := by decide +kernel
theorem dX7_boatInOrder_93 : decode cX7_boatInOrder 93 = .ok (.invokevirtual 134, 3) := by decide +kernel
theorem dX7_boatInOrder_96 : decode cX7_boatInOrder 96 = .ok (.ifCond .eq 5, 3) := by decide +kernel
theorem dX7_boatInOrder_99 : decode cX7_boatInOrder 99 = .ok (.iload_n 2, 1) := by decide +kernel
theorem dX7_boatInOrder_100 : decode cX7_boatInOrder 100 = .ok (.ireturn, 1) := by decide +kernel
theorem dX7_boatInOrder_101 : decode cX7_boatInOrder 101 = .ok (.iinc 2 1, 3) := by decide +kernel
theorem dX7_boatInOrder_104 : decode cX7_boatInOrder 104 = .ok (.goto (-102), 3) := by decide +kernel
theorem dX7_boatInOrder_107 : decode cX7_boatInOrder 107 = .ok (.aload_n 0, 1) := by decide +kernel
theorem dX7_boatInOrder_108 : decode cX7_boatInOrder 108 = .ok (.iconst 1, 1) := by decide +kernel
theorem dX7_boatInOrder_109 : decode cX7_boatInOrder 109 = .ok (.putfield 30, 3) := by decide +kernel
theorem dX7_boatInOrder_112 : decode cX7_boatInOrder 112 = .ok (.iconst 0, 1) := by decide +kernel
theorem dX7_boatInOrder_113 : decode cX7_boatInOrder 113 = .ok (.ireturn, 1) := by decide +kernel
theorem dX7_floats_0 : decode cX7_floats 0 = .ok (.aload_n 0, 1) := by decide +kernel
theorem dX7_floats_1 : decode cX7_floats 1 = .ok (.aload_n 0, 1) := by decide +kernel
theorem dX7_floats_2 : decode cX7_floats 2 = .ok (.iload_n 1, 1) := by decide +kernel
theorem dX7_floats_3 : decode cX7_floats 3 = .ok (.invokevirtual 150, 3) := by decide +kernel
theorem dX7_floats_6 : decode cX7_floats 6 = .ok (.ifCond .eq 14, 3) := by decide +kernel
theorem dX7_floats_9 : decode cX7_floats 9 = .ok (.iload_n 2, 1) := by decide +kernel
theorem dX7_floats_10 : decode cX7_floats 10 = .ok (.invokestatic 131, 3) := by decide +kernel
theorem dX7_floats_13 : decode cX7_floats 13 = .ok (.ifCond .eq 7, 3) := by decide +kernel
theorem dX7_floats_16 : decode cX7_floats 16 = .ok (.iconst 1, 1) := by decide +kernel
theorem dX7_floats_17 : decode cX7_floats 17 = .ok (.goto 4, 3) := by decide +kernel
theorem dX7_floats_20 : decode cX7_floats 20 = .ok (.iconst 0, 1) := by decide +kernel
theorem dX7_floats_21 : decode cX7_floats 21 = .ok (.invokevirtual 134, 3) := by decide +kernel
theorem dX7_floats_24 : decode cX7_floats 24 = .ok (.ifCond .eq 21, 3) := by decide +kernel
theorem dX7_floats_27 : decode cX7_floats 27 = .ok (.aload_n 0, 1) := by decide +kernel
theorem dX7_floats_28 : decode cX7_floats 28 = .ok (.iload_n 2, 1) := by decide +kernel
theorem dX7_floats_29 : decode cX7_floats 29 = .ok (.aload_n 0, 1) := by decide +kernel
theorem dX7_floats_30 : decode cX7_floats 30 = .ok (.iload_n 1, 1) := by decide +kernel
theorem dX7_floats_31 : decode cX7_floats 31 = .ok (.iconst 1, 1) := by decide +kernel
theorem dX7_floats_32 : decode cX7_floats 32 = .ok (.invokevirtual 61, 3) := by decide +kernel
theorem dX7_floats_35 : decode cX7_floats 35 = .ok (.invokevirtual 74, 3) := by decide +kernel
theorem dX7_floats_38 : decode cX7_floats 38 = .ok (.ifCond .eq 7, 3) := by decide +kernel
theorem dX7_floats_41 : decode cX7_floats 41 = .ok (.iconst 1, 1) := by decide +kernel
theorem dX7_floats_42 : decode cX7_floats 42 = .ok (.goto 4, 3) := by decide +kernel
theorem dX7_floats_45 : decode cX7_floats 45 = .ok (.iconst 0, 1) := by decide +kernel
theorem dX7_floats_46 : decode cX7_floats 46 = .ok (.ireturn, 1) := by decide +kernel
theorem dX7_leftTotal_0 : decode cX7_leftTotal 0 = .ok (.aload_n 0, 1) := by decide +kernel
theorem dX7_leftTotal_1 : decode cX7_leftTotal 1 = .ok (.iload_n 1, 1) := by decide +kernel
theorem dX7_leftTotal_2 : decode cX7_leftTotal 2 = .ok (.invokestatic 95, 3) := by decide +kernel
theorem dX7_leftTotal_5 : decode cX7_leftTotal 5 = .ok (.ifCond .lt 7, 3) := by decide +kernel
theorem dX7_leftTotal_8 : decode cX7_leftTotal 8 = .ok (.iconst 1, 1) := by decide +kernel
theorem dX7_leftTotal_9 : decode cX7_leftTotal 9 = .ok (.goto 4, 3) := by decide +kernel
theorem dX7_leftTotal_12 : decode cX7_leftTotal 12 = .ok (.iconst 0, 1) := by decide +kernel
theorem dX7_leftTotal_13 : decode cX7_leftTotal 13 = .ok (.invokevirtual 134, 3) := by decide +kernel
theorem dX7_leftTotal_16 : decode cX7_leftTotal 16 = .ok (.ifCond .eq 18, 3) := by decide +kernel
theorem dX7_leftTotal_19 : decode cX7_leftTotal 19 = .ok (.aload_n 0, 1) := by decide +kernel
theorem dX7_leftTotal_20 : decode cX7_leftTotal 20 = .ok (.getfield 9, 3) := by decide +kernel
theorem dX7_leftTotal_23 : decode cX7_leftTotal 23 = .ok (.bipush 8, 2) := by decide +kernel
theorem dX7_leftTotal_25 : decode cX7_leftTotal 25 = .ok (.iload_n 1, 1) := by decide +kernel
theorem dX7_leftTotal_26 : decode cX7_leftTotal 26 = .ok (.invokestatic 95, 3) := by decide +kernel
theorem dX7_leftTotal_29 : decode cX7_leftTotal 29 = .ok (.iadd, 1) := by decide +kernel
theorem dX7_leftTotal_30 : decode cX7_leftTotal 30 = .ok (.iaload, 1) := by decide +kernel
theorem dX7_leftTotal_31 : decode cX7_leftTotal 31 = .ok (.goto 4, 3) := by decide +kernel
theorem dX7_leftTotal_34 : decode cX7_leftTotal 34 = .ok (.iconst 0, 1) := by decide +kernel
theorem dX7_leftTotal_35 : decode cX7_leftTotal 35 = .ok (.ireturn, 1) := by decide +kernel
theorem dX7_isMarked_0 : decode cX7_isMarked 0 = .ok (.iconst 0, 1) := by decide +kernel
theorem dX7_isMarked_1 : decode cX7_isMarked 1 = .ok (.istore_n 1, 1) := by decide +kernel
theorem dX7_isMarked_2 : decode cX7_isMarked 2 = .ok (.iload_n 1, 1) := by decide +kernel
theorem dX7_isMarked_3 : decode cX7_isMarked 3 = .ok (.aload_n 0, 1) := by decide +kernel
theorem dX7_isMarked_4 : decode cX7_isMarked 4 = .ok (.getfield 9, 3) := by decide +kernel
theorem dX7_isMarked_7 : decode cX7_isMarked 7 = .ok (.bipush 6, 2) := by decide +kernel
theorem dX7_isMarked_9 : decode cX7_isMarked 9 = .ok (.iaload, 1) := by decide +kernel
theorem dX7_isMarked_10 : decode cX7_isMarked 10 = .ok (.if_icmp .ge 21, 3) := by decide +kernel
theorem dX7_isMarked_13 : decode cX7_isMarked 13 = .ok (.aload_n 0, 1) := by decide +kernel
theorem dX7_isMarked_14 : decode cX7_isMarked 14 = .ok (.iload_n 1, 1) := by decide +kernel
theorem dX7_isMarked_15 : decode cX7_isMarked 15 = .ok (.iconst 4, 1) := by decide +kernel
theorem dX7_isMarked_16 : decode cX7_isMarked 16 = .ok (.invokevirtual 61, 3) := by decide +kernel
theorem dX7_isMarked_19 : decode cX7_isMarked 19 = .ok (.iconst 1, 1) := by decide +kernel
theorem dX7_isMarked_20 : decode cX7_isMarked 20 = .ok (.if_icmp .ne 5, 3) := by decide +kernel
theorem dX7_isMarked_23 : decode cX7_isMarked 23 = .ok (.iconst 1, 1) := by decide +kernel
theorem dX7_isMarked_24 : decode cX7_isMarked 24 = .ok (.ireturn, 1) := by decide +kernel
theorem dX7_isMarked_25 : decode cX7_isMarked 25 = .ok (.iinc 1 1, 3) := by decide +kernel
theorem dX7_isMarked_28 : decode cX7_isMarked 28 = .ok (.goto (-26), 3) := by decide +kernel
theorem dX7_isMarked_31 : decode cX7_isMarked 31 = .ok (.iconst 0, 1) := by decide +kernel
theorem dX7_isMarked_32 : decode cX7_isMarked 32 = .ok (.ireturn, 1) := by decide +kernel
theorem dX7_minutesUntilLeaving_0 : decode cX7_minutesUntilLeaving 0 = .ok (.aload_n 0, 1) := by decide +kernel
theorem dX7_minutesUntilLeaving_1 : decode cX7_minutesUntilLeaving 1 = .ok (.aload_n 0, 1) := by decide +kernel
theorem dX7_minutesUntilLeaving_2 : decode cX7_minutesUntilLeaving 2 = .ok (.iload_n 1, 1) := by decide +kernel
theorem dX7_minutesUntilLeaving_3 : decode cX7_minutesUntilLeaving 3 = .ok (.invokevirtual 150, 3) := by decide +kernel
theorem dX7_minutesUntilLeaving_6 : decode cX7_minutesUntilLeaving 6 = .ok (.invokevirtual 134, 3) := by decide +kernel
theorem dX7_minutesUntilLeaving_9 : decode cX7_minutesUntilLeaving 9 = .ok (.ifCond .ne 5, 3) := by decide +kernel
theorem dX7_minutesUntilLeaving_12 : decode cX7_minutesUntilLeaving 12 = .ok (.iconst 0, 1) := by decide +kernel
theorem dX7_minutesUntilLeaving_13 : decode cX7_minutesUntilLeaving 13 = .ok (.ireturn, 1) := by decide +kernel
theorem dX7_minutesUntilLeaving_14 : decode cX7_minutesUntilLeaving 14 = .ok (.iconst (-1), 1) := by decide +kernel
theorem dX7_minutesUntilLeaving_15 : decode cX7_minutesUntilLeaving 15 = .ok (.istore_n 2, 1) := by decide +kernel
theorem dX7_minutesUntilLeaving_16 : decode cX7_minutesUntilLeaving 16 = .ok (.aload_n 0, 1) := by decide +kernel
theorem dX7_minutesUntilLeaving_17 : decode cX7_minutesUntilLeaving 17 = .ok (.iconst 0, 1) := by decide +kernel
theorem dX7_minutesUntilLeaving_18 : decode cX7_minutesUntilLeaving 18 = .ok (.bipush 11, 2) := by decide +kernel
theorem dX7_minutesUntilLeaving_20 : decode cX7_minutesUntilLeaving 20 = .ok (.invokevirtual 33, 3) := by decide +kernel
theorem dX7_minutesUntilLeaving_23 : decode cX7_minutesUntilLeaving 23 = .ok (.aload_n 0, 1) := by decide +kernel
theorem dX7_minutesUntilLeaving_24 : decode cX7_minutesUntilLeaving 24 = .ok (.iload_n 1, 1) := by decide +kernel
theorem dX7_minutesUntilLeaving_25 : decode cX7_minutesUntilLeaving 25 = .ok (.iconst 4, 1) := by decide +kernel
theorem dX7_minutesUntilLeaving_26 : decode cX7_minutesUntilLeaving 26 = .ok (.iconst 1, 1) := by decide +kernel
theorem dX7_minutesUntilLeaving_27 : decode cX7_minutesUntilLeaving 27 = .ok (.invokevirtual 64, 3) := by decide +kernel
theorem dX7_minutesUntilLeaving_30 : decode cX7_minutesUntilLeaving 30 = .ok (.iconst 1, 1) := by decide +kernel
theorem dX7_minutesUntilLeaving_31 : decode cX7_minutesUntilLeaving 31 = .ok (.istore_n 3, 1) := by decide +kernel
theorem dX7_minutesUntilLeaving_32 : decode cX7_minutesUntilLeaving 32 = .ok (.iload_n 2, 1) := by decide +kernel
theorem dX7_minutesUntilLeaving_33 : decode cX7_minutesUntilLeaving 33 = .ok (.ifCond .ge 35, 3) := by decide +kernel
theorem dX7_minutesUntilLeaving_36 : decode cX7_minutesUntilLeaving 36 = .ok (.iload_n 3, 1) := by decide +kernel
theorem dX7_minutesUntilLeaving_37 : decode cX7_minutesUntilLeaving 37 = .ok (.sipush 200, 3) := by decide +kernel
theorem dX7_minutesUntilLeaving_40 : decode cX7_minutesUntilLeaving 40 = .ok (.if_icmp .gt 28, 3) := by decide +kernel
theorem dX7_minutesUntilLeaving_43 : decode cX7_minutesUntilLeaving 43 = .ok (.aload_n 0, 1) := by decide +kernel
theorem dX7_minutesUntilLeaving_44 : decode cX7_minutesUntilLeaving 44 = .ok (.invokevirtual 125, 3) := by decide +kernel
theorem dX7_minutesUntilLeaving_47 : decode cX7_minutesUntilLeaving 47 = .ok (.istore 4, 2) := by decide +kernel
theorem dX7_minutesUntilLeaving_49 : decode cX7_minutesUntilLeaving 49 = .ok (.aload_n 0, 1) := by decide +kernel
theorem dX7_minutesUntilLeaving_50 : decode cX7_minutesUntilLeaving 50 = .ok (.invokevirtual 160, 3) := by decide +kernel
theorem dX7_minutesUntilLeaving_53 : decode cX7_minutesUntilLeaving 53 = .ok (.ifCond .eq 7, 3) := by decide +kernel
theorem dX7_minutesUntilLeaving_56 : decode cX7_minutesUntilLeaving 56 = .ok (.iconst (-1), 1) := by decide +kernel
theorem dX7_minutesUntilLeaving_57 : decode cX7_minutesUntilLeaving 57 = .ok (.goto 4, 3) := by decide +kernel
theorem dX7_minutesUntilLeaving_60 : decode cX7_minutesUntilLeaving 60 = .ok (.iload_n 3, 1) := by decide +kernel
theorem dX7_minutesUntilLeaving_61 : decode cX7_minutesUntilLeaving 61 = .ok (.istore_n 2, 1) := by decide +kernel
theorem dX7_minutesUntilLeaving_62 : decode cX7_minutesUntilLeaving 62 = .ok (.iinc 3 1, 3) := by decide +kernel
theorem dX7_minutesUntilLeaving_65 : decode cX7_minutesUntilLeaving 65 = .ok (.goto (-33), 3) := by decide +kernel
theorem dX7_minutesUntilLeaving_68 : decode cX7_minutesUntilLeaving 68 = .ok (.aload_n 0, 1) := by decide +kernel
theorem dX7_minutesUntilLeaving_69 : decode cX7_minutesUntilLeaving 69 = .ok (.bipush 11, 2) := by decide +kernel
theorem dX7_minutesUntilLeaving_71 : decode cX7_minutesUntilLeaving 71 = .ok (.iconst 0, 1) := by decide +kernel
theorem dX7_minutesUntilLeaving_72 : decode cX7_minutesUntilLeaving 72 = .ok (.invokevirtual 33, 3) := by decide +kernel
theorem dX7_minutesUntilLeaving_75 : decode cX7_minutesUntilLeaving 75 = .ok (.aload_n 0, 1) := by decide +kernel
theorem dX7_minutesUntilLeaving_76 : decode cX7_minutesUntilLeaving 76 = .ok (.iload_n 2, 1) := by decide +kernel
theorem dX7_minutesUntilLeaving_77 : decode cX7_minutesUntilLeaving 77 = .ok (.ifCond .ge 7, 3) := by decide +kernel
theorem dX7_minutesUntilLeaving_80 : decode cX7_minutesUntilLeaving 80 = .ok (.iconst 2, 1) := by decide +kernel
theorem dX7_minutesUntilLeaving_81 : decode cX7_minutesUntilLeaving 81 = .ok (.goto 4, 3) := by decide +kernel
theorem dX7_minutesUntilLeaving_84 : decode cX7_minutesUntilLeaving 84 = .ok (.iconst 0, 1) := by decide +kernel
theorem dX7_minutesUntilLeaving_85 : decode cX7_minutesUntilLeaving 85 = .ok (.putfield 30, 3) := by decide +kernel
theorem dX7_minutesUntilLeaving_88 : decode cX7_minutesUntilLeaving 88 = .ok (.iload_n 2, 1) := by decide +kernel
theorem dX7_minutesUntilLeaving_89 : decode cX7_minutesUntilLeaving 89 = .ok (.ifCond .ge 7, 3) := by decide +kernel
theorem dX7_minutesUntilLeaving_92 : decode cX7_minutesUntilLeaving 92 = .ok (.iconst 0, 1) := by decide +kernel
theorem dX7_minutesUntilLeaving_93 : decode cX7_minutesUntilLeaving 93 = .ok (.goto 4, 3) := by decide +kernel
theorem dX7_minutesUntilLeaving_96 : decode cX7_minutesUntilLeaving 96 = .ok (.iload_n 2, 1) := by decide +kernel
theorem dX7_minutesUntilLeaving_97 : decode cX7_minutesUntilLeaving 97 = .ok (.ireturn, 1) := by decide +kernel
theorem dX7_minutesUntilEqual_0 : decode cX7_minutesUntilEqual 0 = .ok (.aload_n 0, 1) := by decide +kernel
theorem dX7_minutesUntilEqual_1 : decode cX7_minutesUntilEqual 1 = .ok (.iload_n 1, 1) := by decide +kernel
theorem dX7_minutesUntilEqual_2 : decode cX7_minutesUntilEqual 2 = .ok (.invokestatic 106, 3) := by decide +kernel
theorem dX7_minutesUntilEqual_5 : decode cX7_minutesUntilEqual 5 = .ok (.invokevirtual 134, 3) := by decide +kernel
theorem dX7_minutesUntilEqual_8 : decode cX7_minutesUntilEqual 8 = .ok (.ifCond .ne 5, 3) := by decide +kernel
theorem dX7_minutesUntilEqual_11 : decode cX7_minutesUntilEqual 11 = .ok (.iconst 0, 1) := by decide +kernel
theorem dX7_minutesUntilEqual_12 : decode cX7_minutesUntilEqual 12 = .ok (.ireturn, 1) := by decide +kernel
theorem dX7_minutesUntilEqual_13 : decode cX7_minutesUntilEqual 13 = .ok (.aload_n 0, 1) := by decide +kernel
theorem dX7_minutesUntilEqual_14 : decode cX7_minutesUntilEqual 14 = .ok (.iload_n 1, 1) := by decide +kernel
theorem dX7_minutesUntilEqual_15 : decode cX7_minutesUntilEqual 15 = .ok (.invokevirtual 55, 3) := by decide +kernel
theorem dX7_minutesUntilEqual_18 : decode cX7_minutesUntilEqual 18 = .ok (.ifCond .ne 7, 3) := by decide +kernel
theorem dX7_minutesUntilEqual_21 : decode cX7_minutesUntilEqual 21 = .ok (.iconst 0, 1) := by decide +kernel
theorem dX7_minutesUntilEqual_22 : decode cX7_minutesUntilEqual 22 = .ok (.goto 4, 3) := by decide +kernel
theorem dX7_minutesUntilEqual_25 : decode cX7_minutesUntilEqual 25 = .ok (.iconst (-1), 1) := by decide +kernel
theorem dX7_minutesUntilEqual_26 : decode cX7_minutesUntilEqual 26 = .ok (.istore_n 2, 1) := by decide +kernel
theorem dX7_minutesUntilEqual_27 : decode cX7_minutesUntilEqual 27 = .ok (.aload_n 0, 1) := by decide +kernel
theorem dX7_minutesUntilEqual_28 : decode cX7_minutesUntilEqual 28 = .ok (.iconst 0, 1) := by decide +kernel
theorem dX7_minutesUntilEqual_29 : decode cX7_minutesUntilEqual 29 = .ok (.bipush 11, 2) := by decide +kernel
theorem dX7_minutesUntilEqual_31 : decode cX7_minutesUntilEqual 31 = .ok (.invokevirtual 33, 3) := by decide +kernel
theorem dX7_minutesUntilEqual_34 : decode cX7_minutesUntilEqual 34 = .ok (.iconst 1, 1) := by decide +kernel
theorem dX7_minutesUntilEqual_35 : decode cX7_minutesUntilEqual 35 = .ok (.istore_n 3, 1) := by decide +kernel
theorem dX7_minutesUntilEqual_36 : decode cX7_minutesUntilEqual 36 = .ok (.iload_n 2, 1) := by decide +kernel
theorem dX7_minutesUntilEqual_37 : decode cX7_minutesUntilEqual 37 = .ok (.ifCond .ge 36, 3) := by decide +kernel
theorem dX7_minutesUntilEqual_40 : decode cX7_minutesUntilEqual 40 = .ok (.iload_n 3, 1) := by decide +kernel
theorem dX7_minutesUntilEqual_41 : decode cX7_minutesUntilEqual 41 = .ok (.sipush 200, 3) := by decide +kernel
theorem dX7_minutesUntilEqual_44 : decode cX7_minutesUntilEqual 44 = .ok (.if_icmp .gt 29, 3) := by decide +kernel
theorem dX7_minutesUntilEqual_47 : decode cX7_minutesUntilEqual 47 = .ok (.aload_n 0, 1) := by decide +kernel
theorem dX7_minutesUntilEqual_48 : decode cX7_minutesUntilEqual 48 = .ok (.invokevirtual 125, 3) := by decide +kernel
theorem dX7_minutesUntilEqual_51 : decode cX7_minutesUntilEqual 51 = .ok (.istore 4, 2) := by decide +kernel
theorem dX7_minutesUntilEqual_53 : decode cX7_minutesUntilEqual 53 = .ok (.aload_n 0, 1) := by decide +kernel
theorem dX7_minutesUntilEqual_54 : decode cX7_minutesUntilEqual 54 = .ok (.iload_n 1, 1) := by decide +kernel
theorem dX7_minutesUntilEqual_55 : decode cX7_minutesUntilEqual 55 = .ok (.invokevirtual 55, 3) := by decide +kernel
theorem dX7_minutesUntilEqual_58 : decode cX7_minutesUntilEqual 58 = .ok (.ifCond .ne 7, 3) := by decide +kernel
theorem dX7_minutesUntilEqual_61 : decode cX7_minutesUntilEqual 61 = .ok (.iload_n 3, 1) := by decide +kernel
theorem dX7_minutesUntilEqual_62 : decode cX7_minutesUntilEqual 62 = .ok (.goto 4, 3) := by decide +kernel
theorem dX7_minutesUntilEqual_65 : decode cX7_minutesUntilEqual 65 = .ok (.iconst (-1), 1) := by decide +kernel
theorem dX7_minutesUntilEqual_66 : decode cX7_minutesUntilEqual 66 = .ok (.istore_n 2, 1) := by decide +kernel
theorem dX7_minutesUntilEqual_67 : decode cX7_minutesUntilEqual 67 = .ok (.iinc 3 1, 3) := by decide +kernel
theorem dX7_minutesUntilEqual_70 : decode cX7_minutesUntilEqual 70 = .ok (.goto (-34), 3) := by decide +kernel
theorem dX7_minutesUntilEqual_73 : decode cX7_minutesUntilEqual 73 = .ok (.aload_n 0, 1) := by decide +kernel
theorem dX7_minutesUntilEqual_74 : decode cX7_minutesUntilEqual 74 = .ok (.bipush 11, 2) := by decide +kernel
theorem dX7_minutesUntilEqual_76 : decode cX7_minutesUntilEqual 76 = .ok (.iconst 0, 1) := by decide +kernel
theorem dX7_minutesUntilEqual_77 : decode cX7_minutesUntilEqual 77 = .ok (.invokevirtual 33, 3) := by decide +kernel
theorem dX7_minutesUntilEqual_80 : decode cX7_minutesUntilEqual 80 = .ok (.aload_n 0, 1) := by decide +kernel
theorem dX7_minutesUntilEqual_81 : decode cX7_minutesUntilEqual 81 = .ok (.iload_n 2, 1) := by decide +kernel
theorem dX7_minutesUntilEqual_82 : decode cX7_minutesUntilEqual 82 = .ok (.ifCond .ge 7, 3) := by decide +kernel
theorem dX7_minutesUntilEqual_85 : decode cX7_minutesUntilEqual 85 = .ok (.iconst 2, 1) := by decide +kernel
theorem dX7_minutesUntilEqual_86 : decode cX7_minutesUntilEqual 86 = .ok (.goto 4, 3) := by decide +kernel
theorem dX7_minutesUntilEqual_89 : decode cX7_minutesUntilEqual 89 = .ok (.iconst 0, 1) := by decide +kernel
theorem dX7_minutesUntilEqual_90 : decode cX7_minutesUntilEqual 90 = .ok (.putfield 30, 3) := by decide +kernel
theorem dX7_minutesUntilEqual_93 : decode cX7_minutesUntilEqual 93 = .ok (.iload_n 2, 1) := by decide +kernel
theorem dX7_minutesUntilEqual_94 : decode cX7_minutesUntilEqual 94 = .ok (.ifCond .ge 7, 3) := by decide +kernel
theorem dX7_minutesUntilEqual_97 : decode cX7_minutesUntilEqual 97 = .ok (.iconst 0, 1) := by decide +kernel
theorem dX7_minutesUntilEqual_98 : decode cX7_minutesUntilEqual 98 = .ok (.goto 4, 3) := by decide +kernel
theorem dX7_minutesUntilEqual_101 : decode cX7_minutesUntilEqual 101 = .ok (.iload_n 2, 1) := by decide +kernel
theorem dX7_minutesUntilEqual_102 : decode cX7_minutesUntilEqual 102 = .ok (.ireturn, 1) := by decide +kernel
theorem dX7_volumeAfter_0 : decode cX7_volumeAfter 0 = .ok (.aload_n 0, 1) := by decide +kernel
theorem dX7_volumeAfter_1 : decode cX7_volumeAfter 1 = .ok (.iload_n 1, 1) := by decide +kernel
theorem dX7_volumeAfter_2 : decode cX7_volumeAfter 2 = .ok (.invokestatic 131, 3) := by decide +kernel
theorem dX7_volumeAfter_5 : decode cX7_volumeAfter 5 = .ok (.ifCond .ne 7, 3) := by decide +kernel
theorem dX7_volumeAfter_8 : decode cX7_volumeAfter 8 = .ok (.iconst 1, 1) := by decide +kernel
theorem dX7_volumeAfter_9 : decode cX7_volumeAfter 9 = .ok (.goto 19, 3) := by decide +kernel
theorem dX7_volumeAfter_12 : decode cX7_volumeAfter 12 = .ok (.iload_n 2, 1) := by decide +kernel
theorem dX7_volumeAfter_13 : decode cX7_volumeAfter 13 = .ok (.iconst 0, 1) := by decide +kernel
theorem dX7_volumeAfter_14 : decode cX7_volumeAfter 14 = .ok (.sipush 200, 3) := by decide +kernel
theorem dX7_volumeAfter_17 : decode cX7_volumeAfter 17 = .ok (.invokestatic 43, 3) := by decide +kernel
theorem dX7_volumeAfter_20 : decode cX7_volumeAfter 20 = .ok (.ifCond .eq 7, 3) := by decide +kernel
theorem dX7_volumeAfter_23 : decode cX7_volumeAfter 23 = .ok (.iconst 0, 1) := by decide +kernel
theorem dX7_volumeAfter_24 : decode cX7_volumeAfter 24 = .ok (.goto 4, 3) := by decide +kernel
theorem dX7_volumeAfter_27 : decode cX7_volumeAfter 27 = .ok (.iconst 2, 1) := by decide +kernel
theorem dX7_volumeAfter_28 : decode cX7_volumeAfter 28 = .ok (.putfield 30, 3) := by decide +kernel
theorem dX7_volumeAfter_31 : decode cX7_volumeAfter 31 = .ok (.aload_n 0, 1) := by decide +kernel
theorem dX7_volumeAfter_32 : decode cX7_volumeAfter 32 = .ok (.getfield 30, 3) := by decide +kernel
theorem dX7_volumeAfter_35 : decode cX7_volumeAfter 35 = .ok (.ifCond .eq 5, 3) := by decide +kernel
theorem dX7_volumeAfter_38 : decode cX7_volumeAfter 38 = .ok (.iconst 0, 1) := by decide +kernel
theorem dX7_volumeAfter_39 : decode cX7_volumeAfter 39 = .ok (.ireturn, 1) := by decide +kernel
theorem dX7_volumeAfter_40 : decode cX7_volumeAfter 40 = .ok (.aload_n 0, 1) := by decide +kernel
theorem dX7_volumeAfter_41 : decode cX7_volumeAfter 41 = .ok (.iconst 0, 1) := by decide +kernel
theorem dX7_volumeAfter_42 : decode cX7_volumeAfter 42 = .ok (.bipush 11, 2) := by decide +kernel
theorem dX7_volumeAfter_44 : decode cX7_volumeAfter 44 = .ok (.invokevirtual 33, 3) := by decide +kernel
theorem dX7_volumeAfter_47 : decode cX7_volumeAfter 47 = .ok (.iconst 0, 1) := by decide +kernel
theorem dX7_volumeAfter_48 : decode cX7_volumeAfter 48 = .ok (.istore_n 3, 1) := by decide +kernel
theorem dX7_volumeAfter_49 : decode cX7_volumeAfter 49 = .ok (.iload_n 3, 1) := by decide +kernel
theorem dX7_volumeAfter_50 : decode cX7_volumeAfter 50 = .ok (.iload_n 2, 1) := by decide +kernel
theorem dX7_volumeAfter_51 : decode cX7_volumeAfter 51 = .ok (.if_icmp .ge 15, 3) := by decide +kernel
theorem dX7_volumeAfter_54 : decode cX7_volumeAfter 54 = .ok (.aload_n 0, 1) := by decide +kernel
theorem dX7_volumeAfter_55 : decode cX7_volumeAfter 55 = .ok (.invokevirtual 125, 3) := by decide +kernel
theorem dX7_volumeAfter_58 : decode cX7_volumeAfter 58 = .ok (.istore 4, 2) := by decide +kernel
theorem dX7_volumeAfter_60 : decode cX7_volumeAfter 60 = .ok (.iinc 3 1, 3) := by decide +kernel
theorem dX7_volumeAfter_63 : decode cX7_volumeAfter 63 = .ok (.goto (-14), 3) := by decide +kernel
theorem dX7_volumeAfter_66 : decode cX7_volumeAfter 66 = .ok (.aload_n 0, 1) := by decide +kernel
theorem dX7_volumeAfter_67 : decode cX7_volumeAfter 67 = .ok (.getfield 9, 3) := by decide +kernel
theorem dX7_volumeAfter_70 : decode cX7_volumeAfter 70 = .ok (.bipush 11, 2) := by decide +kernel
theorem dX7_volumeAfter_72 : decode cX7_volumeAfter 72 = .ok (.iload_n 1, 1) := by decide +kernel
theorem dX7_volumeAfter_73 : decode cX7_volumeAfter 73 = .ok (.iadd, 1) := by decide +kernel
theorem dX7_volumeAfter_74 : decode cX7_volumeAfter 74 = .ok (.iaload, 1) := by decide +kernel
theorem dX7_volumeAfter_75 : decode cX7_volumeAfter 75 = .ok (.istore_n 3, 1) := by decide +kernel
theorem dX7_volumeAfter_76 : decode cX7_volumeAfter 76 = .ok (.aload_n 0, 1) := by decide +kernel
theorem dX7_volumeAfter_77 : decode cX7_volumeAfter 77 = .ok (.bipush 11, 2) := by decide +kernel
theorem dX7_volumeAfter_79 : decode cX7_volumeAfter 79 = .ok (.iconst 0, 1) := by decide +kernel
theorem dX7_volumeAfter_80 : decode cX7_volumeAfter 80 = .ok (.invokevirtual 33, 3) := by decide +kernel
theorem dX7_volumeAfter_83 : decode cX7_volumeAfter 83 = .ok (.iload_n 3, 1) := by decide +kernel
theorem dX7_volumeAfter_84 : decode cX7_volumeAfter 84 = .ok (.ireturn, 1) := by decide +kernel
theorem dX7_eventCount_0 : decode cX7_eventCount 0 = .ok (.aload_n 0, 1) := by decide +kernel
theorem dX7_eventCount_1 : decode cX7_eventCount 1 = .ok (.bipush 7, 2) := by decide +kernel
theorem dX7_eventCount_3 : decode cX7_eventCount 3 = .ok (.invokevirtual 141, 3) := by decide +kernel
theorem dX7_eventCount_6 : decode cX7_eventCount 6 = .ok (.ireturn, 1) := by decide +kernel
theorem dX7_isEvent_0 : decode cX7_isEvent 0 = .ok (.iload_n 1, 1) := by decide +kernel
theorem dX7_isEvent_1 : decode cX7_isEvent 1 = .ok (.iconst 0, 1) := by decide +kernel
theorem dX7_isEvent_2 : decode cX7_isEvent 2 = .ok (.aload_n 0, 1) := by decide +kernel
theorem dX7_isEvent_3 : decode cX7_isEvent 3 = .ok (.getfield 9, 3) := by decide +kernel
theorem dX7_isEvent_6 : decode cX7_isEvent 6 = .ok (.bipush 7, 2) := by decide +kernel
theorem dX7_isEvent_8 : decode cX7_isEvent 8 = .ok (.iaload, 1) := by decide +kernel
theorem dX7_isEvent_9 : decode cX7_isEvent 9 = .ok (.iconst 1, 1) := by decide +kernel
theorem dX7_isEvent_10 : decode cX7_isEvent 10 = .ok (.isub, 1) := by decide +kernel
theorem dX7_isEvent_11 : decode cX7_isEvent 11 = .ok (.invokestatic 43, 3) := by decide +kernel
theorem dX7_isEvent_14 : decode cX7_isEvent 14 = .ok (.ireturn, 1) := by decide +kernel
theorem dX7_eventKind_0 : decode cX7_eventKind 0 = .ok (.aload_n 0, 1) := by decide +kernel
theorem dX7_eventKind_1 : decode cX7_eventKind 1 = .ok (.aload_n 0, 1) := by decide +kernel
theorem dX7_eventKind_2 : decode cX7_eventKind 2 = .ok (.iload_n 1, 1) := by decide +kernel
theorem dX7_eventKind_3 : decode cX7_eventKind 3 = .ok (.invokevirtual 164, 3) := by decide +kernel
theorem dX7_eventKind_6 : decode cX7_eventKind 6 = .ok (.invokevirtual 134, 3) := by decide +kernel
theorem dX7_eventKind_9 : decode cX7_eventKind 9 = .ok (.ifCond .eq 18, 3) := by decide +kernel
theorem dX7_eventKind_12 : decode cX7_eventKind 12 = .ok (.aload_n 0, 1) := by decide +kernel
theorem dX7_eventKind_13 : decode cX7_eventKind 13 = .ok (.getfield 9, 3) := by decide +kernel
theorem dX7_eventKind_16 : decode cX7_eventKind 16 = .ok (.bipush 24, 2) := by decide +kernel
theorem dX7_eventKind_18 : decode cX7_eventKind 18 = .ok (.iconst 2, 1) := by decide +kernel
theorem dX7_eventKind_19 : decode cX7_eventKind 19 = .ok (.iload_n 1, 1) := by decide +kernel
theorem dX7_eventKind_20 : decode cX7_eventKind 20 = .ok (.imul, 1) := by decide +kernel
theorem dX7_eventKind_21 : decode cX7_eventKind 21 = .ok (.iadd, 1) := by decide +kernel
theorem dX7_eventKind_22 : decode cX7_eventKind 22 = .ok (.iaload, 1) := by decide +kernel
theorem dX7_eventKind_23 : decode cX7_eventKind 23 = .ok (.i2c, 1) := by decide +kernel
theorem dX7_eventKind_24 : decode cX7_eventKind 24 = .ok (.goto 4, 3) := by decide +kernel
theorem dX7_eventKind_27 : decode cX7_eventKind 27 = .ok (.iconst 0, 1) := by decide +kernel
theorem dX7_eventKind_28 : decode cX7_eventKind 28 = .ok (.ireturn, 1) := by decide +kernel
theorem dX7_eventNumber_0 : decode cX7_eventNumber 0 = .ok (.aload_n 0, 1) := by decide +kernel
theorem dX7_eventNumber_1 : decode cX7_eventNumber 1 = .ok (.aload_n 0, 1) := by decide +kernel
theorem dX7_eventNumber_2 : decode cX7_eventNumber 2 = .ok (.iload_n 1, 1) := by decide +kernel
theorem dX7_eventNumber_3 : decode cX7_eventNumber 3 = .ok (.invokevirtual 164, 3) := by decide +kernel
theorem dX7_eventNumber_6 : decode cX7_eventNumber 6 = .ok (.invokevirtual 134, 3) := by decide +kernel
theorem dX7_eventNumber_9 : decode cX7_eventNumber 9 = .ok (.ifCond .eq 19, 3) := by decide +kernel
theorem dX7_eventNumber_12 : decode cX7_eventNumber 12 = .ok (.aload_n 0, 1) := by decide +kernel
theorem dX7_eventNumber_13 : decode cX7_eventNumber 13 = .ok (.getfield 9, 3) := by decide +kernel
theorem dX7_eventNumber_16 : decode cX7_eventNumber 16 = .ok (.bipush 24, 2) := by decide +kernel
theorem dX7_eventNumber_18 : decode cX7_eventNumber 18 = .ok (.iconst 2, 1) := by decide +kernel
theorem dX7_eventNumber_19 : decode cX7_eventNumber 19 = .ok (.iload_n 1, 1) := by decide +kernel
theorem dX7_eventNumber_20 : decode cX7_eventNumber 20 = .ok (.imul, 1) := by decide +kernel
theorem dX7_eventNumber_21 : decode cX7_eventNumber 21 = .ok (.iadd, 1) := by decide +kernel
theorem dX7_eventNumber_22 : decode cX7_eventNumber 22 = .ok (.iconst 1, 1) := by decide +kernel
theorem dX7_eventNumber_23 : decode cX7_eventNumber 23 = .ok (.iadd, 1) := by decide +kernel
theorem dX7_eventNumber_24 : decode cX7_eventNumber 24 = .ok (.iaload, 1) := by decide +kernel
theorem dX7_eventNumber_25 : decode cX7_eventNumber 25 = .ok (.goto 4, 3) := by decide +kernel
theorem dX7_eventNumber_28 : decode cX7_eventNumber 28 = .ok (.iconst 0, 1) := by decide +kernel
theorem dX7_eventNumber_29 : decode cX7_eventNumber 29 = .ok (.ireturn, 1) := by decide +kernel
theorem dX7_time_0 : decode cX7_time 0 = .ok (.aload_n 0, 1) := by decide +kernel
theorem dX7_time_1 : decode cX7_time 1 = .ok (.iconst 0, 1) := by decide +kernel
theorem dX7_time_2 : decode cX7_time 2 = .ok (.invokevirtual 141, 3) := by decide +kernel
theorem dX7_time_5 : decode cX7_time 5 = .ok (.ireturn, 1) := by decide +kernel
theorem dX7_meanLevel_0 : decode cX7_meanLevel 0 = .ok (.aload_n 0, 1) := by decide +kernel
theorem dX7_meanLevel_1 : decode cX7_meanLevel 1 = .ok (.iconst 0, 1) := by decide +kernel
theorem dX7_meanLevel_2 : decode cX7_meanLevel 2 = .ok (.putfield 30, 3) := by decide +kernel
theorem dX7_meanLevel_5 : decode cX7_meanLevel 5 = .ok (.aload_n 0, 1) := by decide +kernel
theorem dX7_meanLevel_6 : decode cX7_meanLevel 6 = .ok (.invokevirtual 144, 3) := by decide +kernel
theorem dX7_meanLevel_9 : decode cX7_meanLevel 9 = .ok (.i2f, 1) := by decide +kernel
theorem dX7_meanLevel_10 : decode cX7_meanLevel 10 = .ok (.ldc 167, 2) := by decide +kernel
theorem dX7_meanLevel_12 : decode cX7_meanLevel 12 = .ok (.fdiv, 1) := by decide +kernel
theorem dX7_meanLevel_13 : decode cX7_meanLevel 13 = .ok (.freturn, 1) := by decide +kernel
theorem dX7_isConsistent_0 : decode cX7_isConsistent 0 = .ok (.aload_n 0, 1) := by decide +kernel
theorem dX7_isConsistent_1 : decode cX7_isConsistent 1 = .ok (.iconst 0, 1) := by decide +kernel
theorem dX7_isConsistent_2 : decode cX7_isConsistent 2 = .ok (.putfield 30, 3) := by decide +kernel
theorem dX7_isConsistent_5 : decode cX7_isConsistent 5 = .ok (.iconst 1, 1) := by decide +kernel
theorem dX7_isConsistent_6 : decode cX7_isConsistent 6 = .ok (.ireturn, 1) := by decide +kernel
theorem dX7_writes_0 : decode cX7_writes 0 = .ok (.aload_n 0, 1) := by decide +kernel
theorem dX7_writes_1 : decode cX7_writes 1 = .ok (.getfield 13, 3) := by decide +kernel
theorem dX7_writes_4 : decode cX7_writes 4 = .ok (.aload_n 0, 1) := by decide +kernel
theorem dX7_writes_5 : decode cX7_writes 5 = .ok (.getfield 168, 3) := by decide +kernel
theorem dX7_writes_8 : decode cX7_writes 8 = .ok (.iload_n 1, 1) := by decide +kernel
theorem dX7_writes_9 : decode cX7_writes 9 = .ok (.i2c, 1) := by decide +kernel
theorem dX7_writes_10 : decode cX7_writes 10 = .ok (.castore, 1) := by decide +kernel
theorem dX7_writes_11 : decode cX7_writes 11 = .ok (.aload_n 0, 1) := by decide +kernel
theorem dX7_writes_12 : decode cX7_writes 12 = .ok (.dup, 1) := by decide +kernel
theorem dX7_writes_13 : decode cX7_writes 13 = .ok (.getfield 168, 3) := by decide +kernel
theorem dX7_writes_16 : decode cX7_writes 16 = .ok (.iconst 1, 1) := by decide +kernel
theorem dX7_writes_17 : decode cX7_writes 17 = .ok (.iadd, 1) := by decide +kernel
theorem dX7_writes_18 : decode cX7_writes 18 = .ok (.putfield 168, 3) := by decide +kernel
theorem dX7_writes_21 : decode cX7_writes 21 = .ok (.return_, 1) := by decide +kernel
theorem dX7_writesNumber_0 : decode cX7_writesNumber 0 = .ok (.iload_n 1, 1) := by decide +kernel
theorem dX7_writesNumber_1 : decode cX7_writesNumber 1 = .ok (.bipush 9, 2) := by decide +kernel
theorem dX7_writesNumber_3 : decode cX7_writesNumber 3 = .ok (.if_icmp .le 11, 3) := by decide +kernel
theorem dX7_writesNumber_6 : decode cX7_writesNumber 6 = .ok (.aload_n 0, 1) := by decide +kernel
theorem dX7_writesNumber_7 : decode cX7_writesNumber 7 = .ok (.iload_n 1, 1) := by decide +kernel
theorem dX7_writesNumber_8 : decode cX7_writesNumber 8 = .ok (.bipush 10, 2) := by decide +kernel
theorem dX7_writesNumber_10 : decode cX7_writesNumber 10 = .ok (.idiv, 1) := by decide +kernel
theorem dX7_writesNumber_11 : decode cX7_writesNumber 11 = .ok (.invokevirtual 171, 3) := by decide +kernel
theorem dX7_writesNumber_14 : decode cX7_writesNumber 14 = .ok (.aload_n 0, 1) := by decide +kernel
theorem dX7_writesNumber_15 : decode cX7_writesNumber 15 = .ok (.bipush 48, 2) := by decide +kernel
theorem dX7_writesNumber_17 : decode cX7_writesNumber 17 = .ok (.iload_n 1, 1) := by decide +kernel
theorem dX7_writesNumber_18 : decode cX7_writesNumber 18 = .ok (.bipush 10, 2) := by decide +kernel
theorem dX7_writesNumber_20 : decode cX7_writesNumber 20 = .ok (.irem, 1) := by decide +kernel
theorem dX7_writesNumber_21 : decode cX7_writesNumber 21 = .ok (.iadd, 1) := by decide +kernel
theorem dX7_writesNumber_22 : decode cX7_writesNumber 22 = .ok (.invokevirtual 174, 3) := by decide +kernel
theorem dX7_writesNumber_25 : decode cX7_writesNumber 25 = .ok (.return_, 1) := by decide +kernel
theorem dX7_renderLevels_0 : decode cX7_renderLevels 0 = .ok (.aload_n 0, 1) := by decide +kernel
theorem dX7_renderLevels_1 : decode cX7_renderLevels 1 = .ok (.iconst 0, 1) := by decide +kernel
theorem dX7_renderLevels_2 : decode cX7_renderLevels 2 = .ok (.putfield 30, 3) := by decide +kernel
theorem dX7_renderLevels_5 : decode cX7_renderLevels 5 = .ok (.aload_n 0, 1) := by decide +kernel
theorem dX7_renderLevels_6 : decode cX7_renderLevels 6 = .ok (.iconst 0, 1) := by decide +kernel
theorem dX7_renderLevels_7 : decode cX7_renderLevels 7 = .ok (.putfield 168, 3) := by decide +kernel
theorem dX7_renderLevels_10 : decode cX7_renderLevels 10 = .ok (.iconst 0, 1) := by decide +kernel
theorem dX7_renderLevels_11 : decode cX7_renderLevels 11 = .ok (.istore_n 1, 1) := by decide +kernel
theorem dX7_renderLevels_12 : decode cX7_renderLevels 12 = .ok (.iload_n 1, 1) := by decide +kernel
theorem dX7_renderLevels_13 : decode cX7_renderLevels 13 = .ok (.iconst 5, 1) := by decide +kernel
theorem dX7_renderLevels_14 : decode cX7_renderLevels 14 = .ok (.if_icmp .ge 57, 3) := by decide +kernel
theorem dX7_renderLevels_17 : decode cX7_renderLevels 17 = .ok (.iload_n 1, 1) := by decide +kernel
theorem dX7_renderLevels_18 : decode cX7_renderLevels 18 = .ok (.ifCond .le 29, 3) := by decide +kernel
theorem dX7_renderLevels_21 : decode cX7_renderLevels 21 = .ok (.aload_n 0, 1) := by decide +kernel
theorem dX7_renderLevels_22 : decode cX7_renderLevels 22 = .ok (.aload_n 0, 1) := by decide +kernel
theorem dX7_renderLevels_23 : decode cX7_renderLevels 23 = .ok (.getfield 9, 3) := by decide +kernel
theorem dX7_renderLevels_26 : decode cX7_renderLevels 26 = .ok (.bipush 20, 2) := by decide +kernel
theorem dX7_renderLevels_28 : decode cX7_renderLevels 28 = .ok (.iload_n 1, 1) := by decide +kernel
theorem dX7_renderLevels_29 : decode cX7_renderLevels 29 = .ok (.iadd, 1) := by decide +kernel
theorem dX7_renderLevels_30 : decode cX7_renderLevels 30 = .ok (.iconst 1, 1) := by decide +kernel
theorem dX7_renderLevels_31 : decode cX7_renderLevels 31 = .ok (.isub, 1) := by decide +kernel
theorem dX7_renderLevels_32 : decode cX7_renderLevels 32 = .ok (.iaload, 1) := by decide +kernel
theorem dX7_renderLevels_33 : decode cX7_renderLevels 33 = .ok (.iconst 1, 1) := by decide +kernel
theorem dX7_renderLevels_34 : decode cX7_renderLevels 34 = .ok (.if_icmp .ne 8, 3) := by decide +kernel
theorem dX7_renderLevels_37 : decode cX7_renderLevels 37 = .ok (.bipush 47, 2) := by decide +kernel
theorem dX7_renderLevels_39 : decode cX7_renderLevels 39 = .ok (.goto 5, 3) := by decide +kernel
theorem dX7_renderLevels_42 : decode cX7_renderLevels 42 = .ok (.bipush 124, 2) := by decide +kernel
theorem dX7_renderLevels_44 : decode cX7_renderLevels 44 = .ok (.invokevirtual 174, 3) := by decide +kernel
theorem dX7_renderLevels_47 : decode cX7_renderLevels 47 = .ok (.aload_n 0, 1) := by decide +kernel
theorem dX7_renderLevels_48 : decode cX7_renderLevels 48 = .ok (.aload_n 0, 1) := by decide +kernel
theorem dX7_renderLevels_49 : decode cX7_renderLevels 49 = .ok (.getfield 9, 3) := by decide +kernel
theorem dX7_renderLevels_52 : decode cX7_renderLevels 52 = .ok (.bipush 11, 2) := by decide +kernel
theorem dX7_renderLevels_54 : decode cX7_renderLevels 54 = .ok (.iload_n 1, 1) := by decide +kernel
theorem dX7_renderLevels_55 : decode cX7_renderLevels 55 = .ok (.iadd, 1) := by decide +kernel
theorem dX7_renderLevels_56 : decode cX7_renderLevels 56 = .ok (.iaload, 1) := by decide +kernel
theorem dX7_renderLevels_57 : decode cX7_renderLevels 57 = .ok (.iload_n 1, 1) := by decide +kernel
theorem dX7_renderLevels_58 : decode cX7_renderLevels 58 = .ok (.invokestatic 47, 3) := by decide +kernel
theorem dX7_renderLevels_61 : decode cX7_renderLevels 61 = .ok (.idiv, 1) := by decide +kernel
theorem dX7_renderLevels_62 : decode cX7_renderLevels 62 = .ok (.invokevirtual 171, 3) := by decide +kernel
theorem dX7_renderLevels_65 : decode cX7_renderLevels 65 = .ok (.iinc 1 1, 3) := by decide +kernel
theorem dX7_renderLevels_68 : decode cX7_renderLevels 68 = .ok (.goto (-56), 3) := by decide +kernel
theorem dX7_renderLevels_71 : decode cX7_renderLevels 71 = .ok (.aload_n 0, 1) := by decide +kernel
theorem dX7_renderLevels_72 : decode cX7_renderLevels 72 = .ok (.getfield 168, 3) := by decide +kernel
theorem dX7_renderLevels_75 : decode cX7_renderLevels 75 = .ok (.ireturn, 1) := by decide +kernel
theorem dX7_renderBoat_0 : decode cX7_renderBoat 0 = .ok (.aload_n 0, 1) := by decide +kernel
theorem dX7_renderBoat_1 : decode cX7_renderBoat 1 = .ok (.aload_n 0, 1) := by decide +kernel
theorem dX7_renderBoat_2 : decode cX7_renderBoat 2 = .ok (.iload_n 1, 1) := by decide +kernel
theorem dX7_renderBoat_3 : decode cX7_renderBoat 3 = .ok (.invokevirtual 150, 3) := by decide +kernel
theorem dX7_renderBoat_6 : decode cX7_renderBoat 6 = .ok (.invokevirtual 134, 3) := by decide +kernel
theorem dX7_renderBoat_9 : decode cX7_renderBoat 9 = .ok (.ifCond .ne 5, 3) := by decide +kernel
theorem dX7_renderBoat_12 : decode cX7_renderBoat 12 = .ok (.iconst 0, 1) := by decide +kernel
theorem dX7_renderBoat_13 : decode cX7_renderBoat 13 = .ok (.ireturn, 1) := by decide +kernel
theorem dX7_renderBoat_14 : decode cX7_renderBoat 14 = .ok (.aload_n 0, 1) := by decide +kernel
theorem dX7_renderBoat_15 : decode cX7_renderBoat 15 = .ok (.iconst 0, 1) := by decide +kernel
theorem dX7_renderBoat_16 : decode cX7_renderBoat 16 = .ok (.putfield 168, 3) := by decide +kernel
theorem dX7_renderBoat_19 : decode cX7_renderBoat 19 = .ok (.aload_n 0, 1) := by decide +kernel
theorem dX7_renderBoat_20 : decode cX7_renderBoat 20 = .ok (.aload_n 0, 1) := by decide +kernel
theorem dX7_renderBoat_21 : decode cX7_renderBoat 21 = .ok (.iload_n 1, 1) := by decide +kernel
theorem dX7_renderBoat_22 : decode cX7_renderBoat 22 = .ok (.iconst 0, 1) := by decide +kernel
theorem dX7_renderBoat_23 : decode cX7_renderBoat 23 = .ok (.invokevirtual 61, 3) := by decide +kernel
theorem dX7_renderBoat_26 : decode cX7_renderBoat 26 = .ok (.invokestatic 153, 3) := by decide +kernel
theorem dX7_renderBoat_29 : decode cX7_renderBoat 29 = .ok (.invokevirtual 174, 3) := by decide +kernel
theorem dX7_renderBoat_32 : decode cX7_renderBoat 32 = .ok (.aload_n 0, 1) := by decide +kernel
theorem dX7_renderBoat_33 : decode cX7_renderBoat 33 = .ok (.aload_n 0, 1) := by decide +kernel
theorem dX7_renderBoat_34 : decode cX7_renderBoat 34 = .ok (.iload_n 1, 1) := by decide +kernel
theorem dX7_renderBoat_35 : decode cX7_renderBoat 35 = .ok (.iconst 1, 1) := by decide +kernel
theorem dX7_renderBoat_36 : decode cX7_renderBoat 36 = .ok (.invokevirtual 61, 3) := by decide +kernel
theorem dX7_renderBoat_39 : decode cX7_renderBoat 39 = .ok (.invokevirtual 171, 3) := by decide +kernel
theorem dX7_renderBoat_42 : decode cX7_renderBoat 42 = .ok (.aload_n 0, 1) := by decide +kernel
theorem dX7_renderBoat_43 : decode cX7_renderBoat 43 = .ok (.aload_n 0, 1) := by decide +kernel
theorem dX7_renderBoat_44 : decode cX7_renderBoat 44 = .ok (.iload_n 1, 1) := by decide +kernel
theorem dX7_renderBoat_45 : decode cX7_renderBoat 45 = .ok (.iconst 2, 1) := by decide +kernel
theorem dX7_renderBoat_46 : decode cX7_renderBoat 46 = .ok (.invokevirtual 61, 3) := by decide +kernel
theorem dX7_renderBoat_49 : decode cX7_renderBoat 49 = .ok (.iconst 1, 1) := by decide +kernel
theorem dX7_renderBoat_50 : decode cX7_renderBoat 50 = .ok (.if_icmp .ne 8, 3) := by decide +kernel
theorem dX7_renderBoat_53 : decode cX7_renderBoat 53 = .ok (.bipush 118, 2) := by decide +kernel
theorem dX7_renderBoat_55 : decode cX7_renderBoat 55 = .ok (.goto 5, 3) := by decide +kernel
theorem dX7_renderBoat_58 : decode cX7_renderBoat 58 = .ok (.bipush 94, 2) := by decide +kernel
theorem dX7_renderBoat_60 : decode cX7_renderBoat 60 = .ok (.invokevirtual 174, 3) := by decide +kernel
theorem dX7_renderBoat_63 : decode cX7_renderBoat 63 = .ok (.aload_n 0, 1) := by decide +kernel
theorem dX7_renderBoat_64 : decode cX7_renderBoat 64 = .ok (.aload_n 0, 1) := by decide +kernel
theorem dX7_renderBoat_65 : decode cX7_renderBoat 65 = .ok (.iload_n 1, 1) := by decide +kernel
theorem dX7_renderBoat_66 : decode cX7_renderBoat 66 = .ok (.iconst 3, 1) := by decide +kernel
theorem dX7_renderBoat_67 : decode cX7_renderBoat 67 = .ok (.invokevirtual 61, 3) := by decide +kernel
theorem dX7_renderBoat_70 : decode cX7_renderBoat 70 = .ok (.invokevirtual 171, 3) := by decide +kernel
theorem dX7_renderBoat_73 : decode cX7_renderBoat 73 = .ok (.aload_n 0, 1) := by decide +kernel
theorem dX7_renderBoat_74 : decode cX7_renderBoat 74 = .ok (.getfield 168, 3) := by decide +kernel
theorem dX7_renderBoat_77 : decode cX7_renderBoat 77 = .ok (.ireturn, 1) := by decide +kernel
theorem dX7_outputAt_0 : decode cX7_outputAt 0 = .ok (.aload_n 0, 1) := by decide +kernel
theorem dX7_outputAt_1 : decode cX7_outputAt 1 = .ok (.iload_n 1, 1) := by decide +kernel
theorem dX7_outputAt_2 : decode cX7_outputAt 2 = .ok (.iconst 0, 1) := by decide +kernel
theorem dX7_outputAt_3 : decode cX7_outputAt 3 = .ok (.aload_n 0, 1) := by decide +kernel
theorem dX7_outputAt_4 : decode cX7_outputAt 4 = .ok (.getfield 168, 3) := by decide +kernel
theorem dX7_outputAt_7 : decode cX7_outputAt 7 = .ok (.iconst 1, 1) := by decide +kernel
theorem dX7_outputAt_8 : decode cX7_outputAt 8 = .ok (.isub, 1) := by decide +kernel
theorem dX7_outputAt_9 : decode cX7_outputAt 9 = .ok (.invokestatic 43, 3) := by decide +kernel
theorem dX7_outputAt_12 : decode cX7_outputAt 12 = .ok (.invokevirtual 134, 3) := by decide +kernel
theorem dX7_outputAt_15 : decode cX7_outputAt 15 = .ok (.ifCond .eq 12, 3) := by decide +kernel
theorem dX7_outputAt_18 : decode cX7_outputAt 18 = .ok (.aload_n 0, 1) := by decide +kernel
theorem dX7_outputAt_19 : decode cX7_outputAt 19 = .ok (.getfield 13, 3) := by decide +kernel
theorem dX7_outputAt_22 : decode cX7_outputAt 22 = .ok (.iload_n 1, 1) := by decide +kernel
theorem dX7_outputAt_23 : decode cX7_outputAt 23 = .ok (.caload, 1) := by decide +kernel
theorem dX7_outputAt_24 : decode cX7_outputAt 24 = .ok (.goto 4, 3) := by decide +kernel
theorem dX7_outputAt_27 : decode cX7_outputAt 27 = .ok (.iconst 0, 1) := by decide +kernel
theorem dX7_outputAt_28 : decode cX7_outputAt 28 = .ok (.ireturn, 1) := by decide +kernel
theorem dX7_type_0 : decode cX7_type 0 = .ok (.aload_n 0, 1) := by decide +kernel
theorem dX7_type_1 : decode cX7_type 1 = .ok (.iload_n 1, 1) := by decide +kernel
theorem dX7_type_2 : decode cX7_type 2 = .ok (.bipush 32, 2) := by decide +kernel
theorem dX7_type_4 : decode cX7_type 4 = .ok (.bipush 126, 2) := by decide +kernel
theorem dX7_type_6 : decode cX7_type 6 = .ok (.invokestatic 43, 3) := by decide +kernel
theorem dX7_type_9 : decode cX7_type 9 = .ok (.ifCond .ne 7, 3) := by decide +kernel
theorem dX7_type_12 : decode cX7_type 12 = .ok (.iconst 1, 1) := by decide +kernel
theorem dX7_type_13 : decode cX7_type 13 = .ok (.goto 17, 3) := by decide +kernel
theorem dX7_type_16 : decode cX7_type 16 = .ok (.aload_n 0, 1) := by decide +kernel
theorem dX7_type_17 : decode cX7_type 17 = .ok (.getfield 177, 3) := by decide +kernel
theorem dX7_type_20 : decode cX7_type 20 = .ok (.bipush 60, 2) := by decide +kernel
theorem dX7_type_22 : decode cX7_type 22 = .ok (.if_icmp .ne 7, 3) := by decide +kernel
theorem dX7_type_25 : decode cX7_type 25 = .ok (.iconst 2, 1) := by decide +kernel
theorem dX7_type_26 : decode cX7_type 26 = .ok (.goto 4, 3) := by decide +kernel
theorem dX7_type_29 : decode cX7_type 29 = .ok (.iconst 0, 1) := by decide +kernel
theorem dX7_type_30 : decode cX7_type 30 = .ok (.putfield 30, 3) := by decide +kernel
theorem dX7_type_33 : decode cX7_type 33 = .ok (.aload_n 0, 1) := by decide +kernel
theorem dX7_type_34 : decode cX7_type 34 = .ok (.getfield 30, 3) := by decide +kernel
theorem dX7_type_37 : decode cX7_type 37 = .ok (.ifCond .eq 5, 3) := by decide +kernel
theorem dX7_type_40 : decode cX7_type 40 = .ok (.iconst 0, 1) := by decide +kernel
theorem dX7_type_41 : decode cX7_type 41 = .ok (.ireturn, 1) := by decide +kernel
theorem dX7_type_42 : decode cX7_type 42 = .ok (.aload_n 0, 1) := by decide +kernel
theorem dX7_type_43 : decode cX7_type 43 = .ok (.getfield 17, 3) := by decide +kernel
theorem dX7_type_46 : decode cX7_type 46 = .ok (.aload_n 0, 1) := by decide +kernel
theorem dX7_type_47 : decode cX7_type 47 = .ok (.getfield 177, 3) := by decide +kernel
theorem dX7_type_50 : decode cX7_type 50 = .ok (.iload_n 1, 1) := by decide +kernel
theorem dX7_type_51 : decode cX7_type 51 = .ok (.castore, 1) := by decide +kernel
theorem dX7_type_52 : decode cX7_type 52 = .ok (.aload_n 0, 1) := by decide +kernel
theorem dX7_type_53 : decode cX7_type 53 = .ok (.dup, 1) := by decide +kernel
theorem dX7_type_54 : decode cX7_type 54 = .ok (.getfield 177, 3) := by decide +kernel
theorem dX7_type_57 : decode cX7_type 57 = .ok (.iconst 1, 1) := by decide +kernel
theorem dX7_type_58 : decode cX7_type 58 = .ok (.iadd, 1) := by decide +kernel
theorem dX7_type_59 : decode cX7_type 59 = .ok (.putfield 177, 3) := by decide +kernel
theorem dX7_type_62 : decode cX7_type 62 = .ok (.aload_n 0, 1) := by decide +kernel
theorem dX7_type_63 : decode cX7_type 63 = .ok (.getfield 177, 3) := by decide +kernel
theorem dX7_type_66 : decode cX7_type 66 = .ok (.ireturn, 1) := by decide +kernel
theorem dX7_sign_0 : decode cX7_sign 0 = .ok (.aload_n 0, 1) := by decide +kernel
theorem dX7_sign_1 : decode cX7_sign 1 = .ok (.getfield 180, 3) := by decide +kernel
theorem dX7_sign_4 : decode cX7_sign 4 = .ok (.aload_n 0, 1) := by decide +kernel
theorem dX7_sign_5 : decode cX7_sign 5 = .ok (.getfield 177, 3) := by decide +kernel
theorem dX7_sign_8 : decode cX7_sign 8 = .ok (.if_icmp .ge 15, 3) := by decide +kernel
theorem dX7_sign_11 : decode cX7_sign 11 = .ok (.aload_n 0, 1) := by decide +kernel
theorem dX7_sign_12 : decode cX7_sign 12 = .ok (.getfield 17, 3) := by decide +kernel
theorem dX7_sign_15 : decode cX7_sign 15 = .ok (.aload_n 0, 1) := by decide +kernel
theorem dX7_sign_16 : decode cX7_sign 16 = .ok (.getfield 180, 3) := by decide +kernel
theorem dX7_sign_19 : decode cX7_sign 19 = .ok (.caload, 1) := by decide +kernel
theorem dX7_sign_20 : decode cX7_sign 20 = .ok (.goto 4, 3) := by decide +kernel
theorem dX7_sign_23 : decode cX7_sign 23 = .ok (.iconst (-1), 1) := by decide +kernel
theorem dX7_sign_24 : decode cX7_sign 24 = .ok (.ireturn, 1) := by decide +kernel
theorem dX7_needs_0 : decode cX7_needs 0 = .ok (.aload_n 0, 1) := by decide +kernel
theorem dX7_needs_1 : decode cX7_needs 1 = .ok (.getfield 183, 3) := by decide +kernel
theorem dX7_needs_4 : decode cX7_needs 4 = .ok (.ifCond .lt 4, 3) := by decide +kernel
theorem dX7_needs_7 : decode cX7_needs 7 = .ok (.return_, 1) := by decide +kernel
theorem dX7_needs_8 : decode cX7_needs 8 = .ok (.aload_n 0, 1) := by decide +kernel
theorem dX7_needs_9 : decode cX7_needs 9 = .ok (.invokevirtual 186, 3) := by decide +kernel
theorem dX7_needs_12 : decode cX7_needs 12 = .ok (.iload_n 1, 1) := by decide +kernel
theorem dX7_needs_13 : decode cX7_needs 13 = .ok (.if_icmp .eq 12, 3) := by decide +kernel
theorem dX7_needs_16 : decode cX7_needs 16 = .ok (.aload_n 0, 1) := by decide +kernel
theorem dX7_needs_17 : decode cX7_needs 17 = .ok (.aload_n 0, 1) := by decide +kernel
theorem dX7_needs_18 : decode cX7_needs 18 = .ok (.getfield 180, 3) := by decide +kernel
theorem dX7_needs_21 : decode cX7_needs 21 = .ok (.putfield 183, 3) := by decide +kernel
theorem dX7_needs_24 : decode cX7_needs 24 = .ok (.return_, 1) := by decide +kernel
theorem dX7_needs_25 : decode cX7_needs 25 = .ok (.aload_n 0, 1) := by decide +kernel
theorem dX7_needs_26 : decode cX7_needs 26 = .ok (.dup, 1) := by decide +kernel
theorem dX7_needs_27 : decode cX7_needs 27 = .ok (.getfield 180, 3) := by decide +kernel
theorem dX7_needs_30 : decode cX7_needs 30 = .ok (.iconst 1, 1) := by decide +kernel
theorem dX7_needs_31 : decode cX7_needs 31 = .ok (.iadd, 1) := by decide +kernel
theorem dX7_needs_32 : decode cX7_needs 32 = .ok (.putfield 180, 3) := by decide +kernel
theorem dX7_needs_35 : decode cX7_needs 35 = .ok (.return_, 1) := by decide +kernel
theorem dX7_letters_0 : decode cX7_letters 0 = .ok (.aload_n 0, 1) := by decide +kernel
theorem dX7_letters_1 : decode cX7_letters 1 = .ok (.iload_n 1, 1) := by decide +kernel
theorem dX7_letters_2 : decode cX7_letters 2 = .ok (.invokevirtual 189, 3) := by decide +kernel
theorem dX7_letters_5 : decode cX7_letters 5 = .ok (.aload_n 0, 1) := by decide +kernel
theorem dX7_letters_6 : decode cX7_letters 6 = .ok (.iload_n 2, 1) := by decide +kernel
theorem dX7_letters_7 : decode cX7_letters 7 = .ok (.invokevirtual 189, 3) := by decide +kernel
theorem dX7_letters_10 : decode cX7_letters 10 = .ok (.aload_n 0, 1) := by decide +kernel
theorem dX7_letters_11 : decode cX7_letters 11 = .ok (.iload_n 3, 1) := by decide +kernel
theorem dX7_letters_12 : decode cX7_letters 12 = .ok (.invokevirtual 189, 3) := by decide +kernel
theorem dX7_letters_15 : decode cX7_letters 15 = .ok (.return_, 1) := by decide +kernel
theorem dX7_number_0 : decode cX7_number 0 = .ok (.aload_n 0, 1) := by decide +kernel
theorem dX7_number_1 : decode cX7_number 1 = .ok (.getfield 183, 3) := by decide +kernel
theorem dX7_number_4 : decode cX7_number 4 = .ok (.ifCond .lt 5, 3) := by decide +kernel
theorem dX7_number_7 : decode cX7_number 7 = .ok (.iconst 0, 1) := by decide +kernel
theorem dX7_number_8 : decode cX7_number 8 = .ok (.ireturn, 1) := by decide +kernel
theorem dX7_number_9 : decode cX7_number 9 = .ok (.aload_n 0, 1) := by decide +kernel
theorem dX7_number_10 : decode cX7_number 10 = .ok (.invokevirtual 186, 3) := by decide +kernel
theorem dX7_number_13 : decode cX7_number 13 = .ok (.bipush 48, 2) := by decide +kernel
theorem dX7_number_15 : decode cX7_number 15 = .ok (.bipush 57, 2) := by decide +kernel
theorem dX7_number_17 : decode cX7_number 17 = .ok (.invokestatic 43, 3) := by decide +kernel
theorem dX7_number_20 : decode cX7_number 20 = .ok (.ifCond .ne 13, 3) := by decide +kernel
theorem dX7_number_23 : decode cX7_number 23 = .ok (.aload_n 0, 1) := by decide +kernel
theorem dX7_number_24 : decode cX7_number 24 = .ok (.aload_n 0, 1) := by decide +kernel
theorem dX7_number_25 : decode cX7_number 25 = .ok (.getfield 180, 3) := by decide +kernel
theorem dX7_number_28 : decode cX7_number 28 = .ok (.putfield 183, 3) := by decide +kernel
theorem dX7_number_31 : decode cX7_number 31 = .ok (.iconst 0, 1) := by decide +kernel
theorem dX7_number_32 : decode cX7_number 32 = .ok (.ireturn, 1) := by decide +kernel
theorem dX7_number_33 : decode cX7_number 33 = .ok (.iconst 0, 1) := by decide +kernel
theorem dX7_number_34 : decode cX7_number 34 = .ok (.istore_n 2, 1) := by decide +kernel
theorem dX7_number_35 : decode cX7_number 35 = .ok (.iconst 0, 1) := by decide +kernel
theorem dX7_number_36 : decode cX7_number 36 = .ok (.istore_n 3, 1) := by decide +kernel
theorem dX7_number_37 : decode cX7_number 37 = .ok (.iload_n 3, 1) := by decide +kernel
theorem dX7_number_38 : decode cX7_number 38 = .ok (.iload_n 1, 1) := by decide +kernel
theorem dX7_number_39 : decode cX7_number 39 = .ok (.if_icmp .ge 46, 3) := by decide +kernel
theorem dX7_number_42 : decode cX7_number 42 = .ok (.aload_n 0, 1) := by decide +kernel
theorem dX7_number_43 : decode cX7_number 43 = .ok (.invokevirtual 186, 3) := by decide +kernel
theorem dX7_number_46 : decode cX7_number 46 = .ok (.bipush 48, 2) := by decide +kernel
theorem dX7_number_48 : decode cX7_number 48 = .ok (.bipush 57, 2) := by decide +kernel
theorem dX7_number_50 : decode cX7_number 50 = .ok (.invokestatic 43, 3) := by decide +kernel
theorem dX7_number_53 : decode cX7_number 53 = .ok (.ifCond .eq 32, 3) := by decide +kernel
theorem dX7_number_56 : decode cX7_number 56 = .ok (.bipush 10, 2) := by decide +kernel
theorem dX7_number_58 : decode cX7_number 58 = .ok (.iload_n 2, 1) := by decide +kernel
theorem dX7_number_59 : decode cX7_number 59 = .ok (.imul, 1) := by decide +kernel
theorem dX7_number_60 : decode cX7_number 60 = .ok (.aload_n 0, 1) := by decide +kernel
theorem dX7_number_61 : decode cX7_number 61 = .ok (.invokevirtual 186, 3) := by decide +kernel
theorem dX7_number_64 : decode cX7_number 64 = .ok (.iadd, 1) := by decide +kernel
theorem dX7_number_65 : decode cX7_number 65 = .ok (.bipush 48, 2) := by decide +kernel
theorem dX7_number_67 : decode cX7_number 67 = .ok (.isub, 1) := by decide +kernel
theorem dX7_number_68 : decode cX7_number 68 = .ok (.istore_n 2, 1) := by decide +kernel
theorem dX7_number_69 : decode cX7_number 69 = .ok (.aload_n 0, 1) := by decide +kernel
theorem dX7_number_70 : decode cX7_number 70 = .ok (.dup, 1) := by decide +kernel
theorem dX7_number_71 : decode cX7_number 71 = .ok (.getfield 180, 3) := by decide +kernel
theorem dX7_number_74 : decode cX7_number 74 = .ok (.iconst 1, 1) := by decide +kernel
theorem dX7_number_75 : decode cX7_number 75 = .ok (.iadd, 1) := by decide +kernel
theorem dX7_number_76 : decode cX7_number 76 = .ok (.putfield 180, 3) := by decide +kernel
theorem dX7_number_79 : decode cX7_number 79 = .ok (.iinc 3 1, 3) := by decide +kernel
theorem dX7_number_82 : decode cX7_number 82 = .ok (.goto (-45), 3) := by decide +kernel
theorem dX7_number_85 : decode cX7_number 85 = .ok (.iload_n 2, 1) := by decide +kernel
theorem dX7_number_86 : decode cX7_number 86 = .ok (.ireturn, 1) := by decide +kernel
theorem dX7_behind_0 : decode cX7_behind 0 = .ok (.aload_n 0, 1) := by decide +kernel
theorem dX7_behind_1 : decode cX7_behind 1 = .ok (.bipush 32, 2) := by decide +kernel
theorem dX7_behind_3 : decode cX7_behind 3 = .ok (.invokevirtual 189, 3) := by decide +kernel
theorem dX7_behind_6 : decode cX7_behind 6 = .ok (.aload_n 0, 1) := by decide +kernel
theorem dX7_behind_7 : decode cX7_behind 7 = .ok (.iload_n 1, 1) := by decide +kernel
theorem dX7_behind_8 : decode cX7_behind 8 = .ok (.invokevirtual 192, 3) := by decide +kernel
theorem dX7_behind_11 : decode cX7_behind 11 = .ok (.ireturn, 1) := by decide +kernel
theorem dX7_oneOf_0 : decode cX7_oneOf 0 = .ok (.aload_n 0, 1) := by decide +kernel
theorem dX7_oneOf_1 : decode cX7_oneOf 1 = .ok (.getfield 183, 3) := by decide +kernel
theorem dX7_oneOf_4 : decode cX7_oneOf 4 = .ok (.ifCond .lt 5, 3) := by decide +kernel
theorem dX7_oneOf_7 : decode cX7_oneOf 7 = .ok (.iconst 0, 1) := by decide +kernel
theorem dX7_oneOf_8 : decode cX7_oneOf 8 = .ok (.ireturn, 1) := by decide +kernel
theorem dX7_oneOf_9 : decode cX7_oneOf 9 = .ok (.aload_n 0, 1) := by decide +kernel
theorem dX7_oneOf_10 : decode cX7_oneOf 10 = .ok (.invokevirtual 186, 3) := by decide +kernel
theorem dX7_oneOf_13 : decode cX7_oneOf 13 = .ok (.istore 4, 2) := by decide +kernel
theorem dX7_oneOf_15 : decode cX7_oneOf 15 = .ok (.iload 4, 2) := by decide +kernel
theorem dX7_oneOf_17 : decode cX7_oneOf 17 = .ok (.iload_n 1, 1) := by decide +kernel
theorem dX7_oneOf_18 : decode cX7_oneOf 18 = .ok (.if_icmp .ne 7, 3) := by decide +kernel
theorem dX7_oneOf_21 : decode cX7_oneOf 21 = .ok (.iconst 0, 1) := by decide +kernel
theorem dX7_oneOf_22 : decode cX7_oneOf 22 = .ok (.goto 28, 3) := by decide +kernel
theorem dX7_oneOf_25 : decode cX7_oneOf 25 = .ok (.iload 4, 2) := by decide +kernel
theorem dX7_oneOf_27 : decode cX7_oneOf 27 = .ok (.iload_n 2, 1) := by decide +kernel
theorem dX7_oneOf_28 : decode cX7_oneOf 28 = .ok (.if_icmp .ne 7, 3) := by decide +kernel
theorem dX7_oneOf_31 : decode cX7_oneOf 31 = .ok (.iconst 1, 1) := by decide +kernel
theorem dX7_oneOf_32 : decode cX7_oneOf 32 = .ok (.goto 18, 3) := by decide +kernel
theorem dX7_oneOf_35 : decode cX7_oneOf 35 = .ok (.iload_n 3, 1) := by decide +kernel
theorem dX7_oneOf_36 : decode cX7_oneOf 36 = .ok (.ifCond .eq 13, 3) := by decide +kernel
theorem dX7_oneOf_39 : decode cX7_oneOf 39 = .ok (.iload 4, 2) := by decide +kernel
theorem dX7_oneOf_41 : decode cX7_oneOf 41 = .ok (.iload_n 3, 1) := by decide +kernel
theorem dX7_oneOf_42 : decode cX7_oneOf 42 = .ok (.if_icmp .ne 7, 3) := by decide +kernel
theorem dX7_oneOf_45 : decode cX7_oneOf 45 = .ok (.iconst 2, 1) := by decide +kernel
theorem dX7_oneOf_46 : decode cX7_oneOf 46 = .ok (.goto 4, 3) := by decide +kernel
theorem dX7_oneOf_49 : decode cX7_oneOf 49 = .ok (.iconst (-1), 1) := by decide +kernel
theorem dX7_oneOf_50 : decode cX7_oneOf 50 = .ok (.istore 5, 2) := by decide +kernel
theorem dX7_oneOf_52 : decode cX7_oneOf 52 = .ok (.iload 5, 2) := by decide +kernel
theorem dX7_oneOf_54 : decode cX7_oneOf 54 = .ok (.ifCond .ge 13, 3) := by decide +kernel
theorem dX7_oneOf_57 : decode cX7_oneOf 57 = .ok (.aload_n 0, 1) := by decide +kernel
theorem dX7_oneOf_58 : decode cX7_oneOf 58 = .ok (.aload_n 0, 1) := by decide +kernel
theorem dX7_oneOf_59 : decode cX7_oneOf 59 = .ok (.getfield 180, 3) := by decide +kernel
theorem dX7_oneOf_62 : decode cX7_oneOf 62 = .ok (.putfield 183, 3) := by decide +kernel
theorem dX7_oneOf_65 : decode cX7_oneOf 65 = .ok (.iconst 0, 1) := by decide +kernel
theorem dX7_oneOf_66 : decode cX7_oneOf 66 = .ok (.ireturn, 1) := by decide +kernel
theorem dX7_oneOf_67 : decode cX7_oneOf 67 = .ok (.aload_n 0, 1) := by decide +kernel
theorem dX7_oneOf_68 : decode cX7_oneOf 68 = .ok (.dup, 1) := by decide +kernel
theorem dX7_oneOf_69 : decode cX7_oneOf 69 = .ok (.getfield 180, 3) := by decide +kernel
theorem dX7_oneOf_72 : decode cX7_oneOf 72 = .ok (.iconst 1, 1) := by decide +kernel
theorem dX7_oneOf_73 : decode cX7_oneOf 73 = .ok (.iadd, 1) := by decide +kernel
theorem dX7_oneOf_74 : decode cX7_oneOf 74 = .ok (.putfield 180, 3) := by decide +kernel
theorem dX7_oneOf_77 : decode cX7_oneOf 77 = .ok (.iload 5, 2) := by decide +kernel
theorem dX7_oneOf_79 : decode cX7_oneOf 79 = .ok (.ireturn, 1) := by decide +kernel
theorem dX7_word_0 : decode cX7_word 0 = .ok (.iload_n 1, 1) := by decide +kernel
theorem dX7_word_1 : decode cX7_word 1 = .ok (.lookupswitch 149 #[(98, 59), (100, 130), (111, 91), (114, 117), (115, 104), (118, 72)], 59) := by decide +kernel
theorem dX7_word_60 : decode cX7_word 60 = .ok (.aload_n 0, 1) := by decide +kernel
theorem dX7_word_61 : decode cX7_word 61 = .ok (.bipush 111, 2) := by decide +kernel
theorem dX7_word_63 : decode cX7_word 63 = .ok (.bipush 97, 2) := by decide +kernel
theorem dX7_word_65 : decode cX7_word 65 = .ok (.bipush 116, 2) := by decide +kernel
theorem dX7_word_67 : decode cX7_word 67 = .ok (.invokevirtual 195, 3) := by decide +kernel
theorem dX7_word_70 : decode cX7_word 70 = .ok (.goto 90, 3) := by decide +kernel
theorem dX7_word_73 : decode cX7_word 73 = .ok (.aload_n 0, 1) := by decide +kernel
theorem dX7_word_74 : decode cX7_word 74 = .ok (.bipush 97, 2) := by decide +kernel
theorem dX7_word_76 : decode cX7_word 76 = .ok (.bipush 108, 2) := by decide +kernel
theorem dX7_word_78 : decode cX7_word 78 = .ok (.bipush 118, 2) := by decide +kernel
theorem dX7_word_80 : decode cX7_word 80 = .ok (.invokevirtual 195, 3) := by decide +kernel
theorem dX7_word_83 : decode cX7_word 83 = .ok (.aload_n 0, 1) := by decide +kernel
theorem dX7_word_84 : decode cX7_word 84 = .ok (.bipush 101, 2) := by decide +kernel
theorem dX7_word_86 : decode cX7_word 86 = .ok (.invokevirtual 189, 3) := by decide +kernel
theorem dX7_word_89 : decode cX7_word 89 = .ok (.goto 71, 3) := by decide +kernel
theorem dX7_word_92 : decode cX7_word 92 = .ok (.aload_n 0, 1) := by decide +kernel
theorem dX7_word_93 : decode cX7_word 93 = .ok (.bipush 112, 2) := by decide +kernel
theorem dX7_word_95 : decode cX7_word 95 = .ok (.bipush 101, 2) := by decide +kernel
theorem dX7_word_97 : decode cX7_word 97 = .ok (.bipush 110, 2) := by decide +kernel
theorem dX7_word_99 : decode cX7_word 99 = .ok (.invokevirtual 195, 3) := by decide +kernel
theorem dX7_word_102 : decode cX7_word 102 = .ok (.goto 58, 3) := by decide +kernel
theorem dX7_word_105 : decode cX7_word 105 = .ok (.aload_n 0, 1) := by decide +kernel
theorem dX7_word_106 : decode cX7_word 106 = .ok (.bipush 104, 2) := by decide +kernel
theorem dX7_word_108 : decode cX7_word 108 = .ok (.bipush 117, 2) := by decide +kernel
theorem dX7_word_110 : decode cX7_word 110 = .ok (.bipush 116, 2) := by decide +kernel
theorem dX7_word_112 : decode cX7_word 112 = .ok (.invokevirtual 195, 3) := by decide +kernel
theorem dX7_word_115 : decode cX7_word 115 = .ok (.goto 45, 3) := by decide +kernel
theorem dX7_word_118 : decode cX7_word 118 = .ok (.aload_n 0, 1) := by decide +kernel
theorem dX7_word_119 : decode cX7_word 119 = .ok (.bipush 97, 2) := by decide +kernel
theorem dX7_word_121 : decode cX7_word 121 = .ok (.bipush 105, 2) := by decide +kernel
theorem dX7_word_123 : decode cX7_word 123 = .ok (.bipush 110, 2) := by decide +kernel
theorem dX7_word_125 : decode cX7_word 125 = .ok (.invokevirtual 195, 3) := by decide +kernel
theorem dX7_word_128 : decode cX7_word 128 = .ok (.goto 32, 3) := by decide +kernel
theorem dX7_word_131 : decode cX7_word 131 = .ok (.aload_n 0, 1) := by decide +kernel
theorem dX7_word_132 : decode cX7_word 132 = .ok (.bipush 114, 2) := by decide +kernel
theorem dX7_word_134 : decode cX7_word 134 = .ok (.bipush 97, 2) := by decide +kernel
theorem dX7_word_136 : decode cX7_word 136 = .ok (.bipush 105, 2) := by decide +kernel
theorem dX7_word_138 : decode cX7_word 138 = .ok (.invokevirtual 195, 3) := by decide +kernel
theorem dX7_word_141 : decode cX7_word 141 = .ok (.aload_n 0, 1) := by decide +kernel
theorem dX7_word_142 : decode cX7_word 142 = .ok (.bipush 110, 2) := by decide +kernel
theorem dX7_word_144 : decode cX7_word 144 = .ok (.invokevirtual 189, 3) := by decide +kernel
theorem dX7_word_147 : decode cX7_word 147 = .ok (.goto 13, 3) := by decide +kernel
theorem dX7_word_150 : decode cX7_word 150 = .ok (.aload_n 0, 1) := by decide +kernel
theorem dX7_word_151 : decode cX7_word 151 = .ok (.bipush 97, 2) := by decide +kernel
theorem dX7_word_153 : decode cX7_word 153 = .ok (.bipush 105, 2) := by decide +kernel
theorem dX7_word_155 : decode cX7_word 155 = .ok (.bipush 116, 2) := by decide +kernel
theorem dX7_word_157 : decode cX7_word 157 = .ok (.invokevirtual 195, 3) := by decide +kernel
theorem dX7_word_160 : decode cX7_word 160 = .ok (.return_, 1) := by decide +kernel
theorem dX7_command_0 : decode cX7_command 0 = .ok (.iconst 4, 1) := by decide +kernel
theorem dX7_command_1 : decode cX7_command 1 = .ok (.aload_n 0, 1) := by decide +kernel
theorem dX7_command_2 : decode cX7_command 2 = .ok (.getfield 198, 3) := by decide +kernel
theorem dX7_command_5 : decode cX7_command 5 = .ok (.imul, 1) := by decide +kernel
theorem dX7_command_6 : decode cX7_command 6 = .ok (.istore_n 1, 1) := by decide +kernel
theorem dX7_command_7 : decode cX7_command 7 = .ok (.aload_n 0, 1) := by decide +kernel
theorem dX7_command_8 : decode cX7_command 8 = .ok (.dup, 1) := by decide +kernel
theorem dX7_command_9 : decode cX7_command 9 = .ok (.getfield 198, 3) := by decide +kernel
theorem dX7_command_12 : decode cX7_command 12 = .ok (.iconst 1, 1) := by decide +kernel
theorem dX7_command_13 : decode cX7_command 13 = .ok (.iadd, 1) := by decide +kernel
theorem dX7_command_14 : decode cX7_command 14 = .ok (.putfield 198, 3) := by decide +kernel
theorem dX7_command_17 : decode cX7_command 17 = .ok (.aload_n 0, 1) := by decide +kernel
theorem dX7_command_18 : decode cX7_command 18 = .ok (.invokevirtual 186, 3) := by decide +kernel
theorem dX7_command_21 : decode cX7_command 21 = .ok (.istore_n 2, 1) := by decide +kernel
theorem dX7_command_22 : decode cX7_command 22 = .ok (.iconst 0, 1) := by decide +kernel
theorem dX7_command_23 : decode cX7_command 23 = .ok (.istore_n 3, 1) := by decide +kernel
theorem dX7_command_24 : decode cX7_command 24 = .ok (.iload_n 3, 1) := by decide +kernel
theorem dX7_command_25 : decode cX7_command 25 = .ok (.iconst 4, 1) := by decide +kernel
theorem dX7_command_26 : decode cX7_command 26 = .ok (.if_icmp .ge 18, 3) := by decide +kernel
theorem dX7_command_29 : decode cX7_command 29 = .ok (.aload_n 0, 1) := by decide +kernel
theorem dX7_command_30 : decode cX7_command 30 = .ok (.getfield 27, 3) := by decide +kernel
theorem dX7_command_33 : decode cX7_command 33 = .ok (.iload_n 1, 1) := by decide +kernel
theorem dX7_command_34 : decode cX7_command 34 = .ok (.iload_n 3, 1) := by decide +kernel
theorem dX7_command_35 : decode cX7_command 35 = .ok (.iadd, 1) := by decide +kernel
theorem dX7_command_36 : decode cX7_command 36 = .ok (.iconst 0, 1) := by decide +kernel
theorem dX7_command_37 : decode cX7_command 37 = .ok (.iastore, 1) := by decide +kernel
theorem dX7_command_38 : decode cX7_command 38 = .ok (.iinc 3 1, 3) := by decide +kernel
theorem dX7_command_41 : decode cX7_command 41 = .ok (.goto (-17), 3) := by decide +kernel
theorem dX7_command_44 : decode cX7_command 44 = .ok (.iload_n 2, 1) := by decide +kernel
theorem dX7_command_45 : decode cX7_command 45 = .ok (.bipush 98, 2) := by decide +kernel
theorem dX7_command_47 : decode cX7_command 47 = .ok (.if_icmp .eq 48, 3) := by decide +kernel
theorem dX7_command_50 : decode cX7_command 50 = .ok (.iload_n 2, 1) := by decide +kernel
theorem dX7_command_51 : decode cX7_command 51 = .ok (.bipush 118, 2) := by decide +kernel
theorem dX7_command_53 : decode cX7_command 53 = .ok (.if_icmp .eq 42, 3) := by decide +kernel
theorem dX7_command_56 : decode cX7_command 56 = .ok (.iload_n 2, 1) := by decide +kernel
theorem dX7_command_57 : decode cX7_command 57 = .ok (.bipush 111, 2) := by decide +kernel
theorem dX7_command_59 : decode cX7_command 59 = .ok (.if_icmp .eq 36, 3) := by decide +kernel
theorem dX7_command_62 : decode cX7_command 62 = .ok (.iload_n 2, 1) := by decide +kernel
theorem dX7_command_63 : decode cX7_command 63 = .ok (.bipush 115, 2) := by decide +kernel
theorem dX7_command_65 : decode cX7_command 65 = .ok (.if_icmp .eq 30, 3) := by decide +kernel
theorem dX7_command_68 : decode cX7_command 68 = .ok (.iload_n 2, 1) := by decide +kernel
theorem dX7_command_69 : decode cX7_command 69 = .ok (.bipush 114, 2) := by decide +kernel
theorem dX7_command_71 : decode cX7_command 71 = .ok (.if_icmp .eq 24, 3) := by decide +kernel
theorem dX7_command_74 : decode cX7_command 74 = .ok (.iload_n 2, 1) := by decide +kernel
theorem dX7_command_75 : decode cX7_command 75 = .ok (.bipush 100, 2) := by decide +kernel
theorem dX7_command_77 : decode cX7_command 77 = .ok (.if_icmp .eq 18, 3) := by decide +kernel
theorem dX7_command_80 : decode cX7_command 80 = .ok (.iload_n 2, 1) := by decide +kernel
theorem dX7_command_81 : decode cX7_command 81 = .ok (.bipush 119, 2) := by decide +kernel
theorem dX7_command_83 : decode cX7_command 83 = .ok (.if_icmp .eq 12, 3) := by decide +kernel
theorem dX7_command_86 : decode cX7_command 86 = .ok (.aload_n 0, 1) := by decide +kernel
theorem dX7_command_87 : decode cX7_command 87 = .ok (.aload_n 0, 1) := by decide +kernel
theorem dX7_command_88 : decode cX7_command 88 = .ok (.getfield 180, 3) := by decide +kernel
theorem dX7_command_91 : decode cX7_command 91 = .ok (.putfield 183, 3) := by decide +kernel
theorem dX7_command_94 : decode cX7_command 94 = .ok (.return_, 1) := by decide +kernel
theorem dX7_command_95 : decode cX7_command 95 = .ok (.aload_n 0, 1) := by decide +kernel
theorem dX7_command_96 : decode cX7_command 96 = .ok (.dup, 1) := by decide +kernel
theorem dX7_command_97 : decode cX7_command 97 = .ok (.getfield 180, 3) := by decide +kernel
theorem dX7_command_100 : decode cX7_command 100 = .ok (.iconst 1, 1) := by decide +kernel
theorem dX7_command_101 : decode cX7_command 101 = .ok (.iadd, 1) := by decide +kernel
theorem dX7_command_102 : decode cX7_command 102 = .ok (.putfield 180, 3) := by decide +kernel
theorem dX7_command_105 : decode cX7_command 105 = .ok (.aload_n 0, 1) := by decide +kernel
theorem dX7_command_106 : decode cX7_command 106 = .ok (.iload_n 2, 1) := by decide +kernel
theorem dX7_command_107 : decode cX7_command 107 = .ok (.invokevirtual 201, 3) := by decide +kernel
theorem dX7_command_110 : decode cX7_command 110 = .ok (.aload_n 0, 1) := by decide +kernel
theorem dX7_command_111 : decode cX7_command 111 = .ok (.getfield 27, 3) := by decide +kernel
theorem dX7_command_114 : decode cX7_command 114 = .ok (.iload_n 1, 1) := by decide +kernel
theorem dX7_command_115 : decode cX7_command 115 = .ok (.iload_n 2, 1) := by decide +kernel
theorem dX7_command_116 : decode cX7_command 116 = .ok (.iastore, 1) := by decide +kernel
theorem dX7_command_117 : decode cX7_command 117 = .ok (.iload_n 2, 1) := by decide +kernel
theorem dX7_command_118 : decode cX7_command 118 = .ok (.lookupswitch 164 #[(98, 34), (118, 99), (119, 128)], 34) := by decide +kernel
theorem dX7_command_152 : decode cX7_command 152 = .ok (.aload_n 0, 1) := by decide +kernel
theorem dX7_command_153 : decode cX7_command 153 = .ok (.bipush 32, 2) := by decide +kernel
theorem dX7_command_155 : decode cX7_command 155 = .ok (.invokevirtual 189, 3) := by decide +kernel
theorem dX7_command_158 : decode cX7_command 158 = .ok (.aload_n 0, 1) := by decide +kernel
theorem dX7_command_159 : decode cX7_command 159 = .ok (.getfield 27, 3) := by decide +kernel
theorem dX7_command_162 : decode cX7_command 162 = .ok (.iload_n 1, 1) := by decide +kernel
theorem dX7_command_163 : decode cX7_command 163 = .ok (.iconst 1, 1) := by decide +kernel
theorem dX7_command_164 : decode cX7_command 164 = .ok (.iadd, 1) := by decide +kernel
theorem dX7_command_165 : decode cX7_command 165 = .ok (.aload_n 0, 1) := by decide +kernel
theorem dX7_command_166 : decode cX7_command 166 = .ok (.bipush 114, 2) := by decide +kernel
theorem dX7_command_168 : decode cX7_command 168 = .ok (.bipush 103, 2) := by decide +kernel
theorem dX7_command_170 : decode cX7_command 170 = .ok (.bipush 98, 2) := by decide +kernel
theorem dX7_command_172 : decode cX7_command 172 = .ok (.invokevirtual 204, 3) := by decide +kernel
theorem dX7_command_175 : decode cX7_command 175 = .ok (.iastore, 1) := by decide +kernel
theorem dX7_command_176 : decode cX7_command 176 = .ok (.aload_n 0, 1) := by decide +kernel
theorem dX7_command_177 : decode cX7_command 177 = .ok (.getfield 27, 3) := by decide +kernel
theorem dX7_command_180 : decode cX7_command 180 = .ok (.iload_n 1, 1) := by decide +kernel
theorem dX7_command_181 : decode cX7_command 181 = .ok (.iconst 2, 1) := by decide +kernel
theorem dX7_command_182 : decode cX7_command 182 = .ok (.iadd, 1) := by decide +kernel
theorem dX7_command_183 : decode cX7_command 183 = .ok (.aload_n 0, 1) := by decide +kernel
theorem dX7_command_184 : decode cX7_command 184 = .ok (.iconst 1, 1) := by decide +kernel
theorem dX7_command_185 : decode cX7_command 185 = .ok (.invokevirtual 192, 3) := by decide +kernel
theorem dX7_command_188 : decode cX7_command 188 = .ok (.iastore, 1) := by decide +kernel
theorem dX7_command_189 : decode cX7_command 189 = .ok (.aload_n 0, 1) := by decide +kernel
theorem dX7_command_190 : decode cX7_command 190 = .ok (.bipush 32, 2) := by decide +kernel
theorem dX7_command_192 : decode cX7_command 192 = .ok (.invokevirtual 189, 3) := by decide +kernel
theorem dX7_command_195 : decode cX7_command 195 = .ok (.aload_n 0, 1) := by decide +kernel
theorem dX7_command_196 : decode cX7_command 196 = .ok (.getfield 27, 3) := by decide +kernel
theorem dX7_command_199 : decode cX7_command 199 = .ok (.iload_n 1, 1) := by decide +kernel
theorem dX7_command_200 : decode cX7_command 200 = .ok (.iconst 3, 1) := by decide +kernel
theorem dX7_command_201 : decode cX7_command 201 = .ok (.iadd, 1) := by decide +kernel
theorem dX7_command_202 : decode cX7_command 202 = .ok (.iconst 1, 1) := by decide +kernel
theorem dX7_command_203 : decode cX7_command 203 = .ok (.aload_n 0, 1) := by decide +kernel
theorem dX7_command_204 : decode cX7_command 204 = .ok (.bipush 100, 2) := by decide +kernel
theorem dX7_command_206 : decode cX7_command 206 = .ok (.bipush 117, 2) := by decide +kernel
theorem dX7_command_208 : decode cX7_command 208 = .ok (.iconst 0, 1) := by decide +kernel
theorem dX7_command_209 : decode cX7_command 209 = .ok (.invokevirtual 204, 3) := by decide +kernel
theorem dX7_command_212 : decode cX7_command 212 = .ok (.isub, 1) := by decide +kernel
theorem dX7_command_213 : decode cX7_command 213 = .ok (.iastore, 1) := by decide +kernel
theorem dX7_command_214 : decode cX7_command 214 = .ok (.goto 81, 3) := by decide +kernel
theorem dX7_command_217 : decode cX7_command 217 = .ok (.aload_n 0, 1) := by decide +kernel
theorem dX7_command_218 : decode cX7_command 218 = .ok (.getfield 27, 3) := by decide +kernel
theorem dX7_command_221 : decode cX7_command 221 = .ok (.iload_n 1, 1) := by decide +kernel
theorem dX7_command_222 : decode cX7_command 222 = .ok (.iconst 1, 1) := by decide +kernel
theorem dX7_command_223 : decode cX7_command 223 = .ok (.iadd, 1) := by decide +kernel
theorem dX7_command_224 : decode cX7_command 224 = .ok (.aload_n 0, 1) := by decide +kernel
theorem dX7_command_225 : decode cX7_command 225 = .ok (.iconst 1, 1) := by decide +kernel
theorem dX7_command_226 : decode cX7_command 226 = .ok (.invokevirtual 207, 3) := by decide +kernel
theorem dX7_command_229 : decode cX7_command 229 = .ok (.iastore, 1) := by decide +kernel
theorem dX7_command_230 : decode cX7_command 230 = .ok (.aload_n 0, 1) := by decide +kernel
theorem dX7_command_231 : decode cX7_command 231 = .ok (.getfield 27, 3) := by decide +kernel
theorem dX7_command_234 : decode cX7_command 234 = .ok (.iload_n 1, 1) := by decide +kernel
theorem dX7_command_235 : decode cX7_command 235 = .ok (.iconst 2, 1) := by decide +kernel
theorem dX7_command_236 : decode cX7_command 236 = .ok (.iadd, 1) := by decide +kernel
theorem dX7_command_237 : decode cX7_command 237 = .ok (.aload_n 0, 1) := by decide +kernel
theorem dX7_command_238 : decode cX7_command 238 = .ok (.iconst 1, 1) := by decide +kernel
theorem dX7_command_239 : decode cX7_command 239 = .ok (.invokevirtual 207, 3) := by decide +kernel
theorem dX7_command_242 : decode cX7_command 242 = .ok (.iastore, 1) := by decide +kernel
theorem dX7_command_243 : decode cX7_command 243 = .ok (.goto 52, 3) := by decide +kernel
theorem dX7_command_246 : decode cX7_command 246 = .ok (.aload_n 0, 1) := by decide +kernel
theorem dX7_command_247 : decode cX7_command 247 = .ok (.getfield 27, 3) := by decide +kernel
theorem dX7_command_250 : decode cX7_command 250 = .ok (.iload_n 1, 1) := by decide +kernel
theorem dX7_command_251 : decode cX7_command 251 = .ok (.iconst 1, 1) := by decide +kernel
theorem dX7_command_252 : decode cX7_command 252 = .ok (.iadd, 1) := by decide +kernel
theorem dX7_command_253 : decode cX7_command 253 = .ok (.aload_n 0, 1) := by decide +kernel
theorem dX7_command_254 : decode cX7_command 254 = .ok (.getfield 183, 3) := by decide +kernel
theorem dX7_command_257 : decode cX7_command 257 = .ok (.ifCond .ge 20, 3) := by decide +kernel
theorem dX7_command_260 : decode cX7_command 260 = .ok (.aload_n 0, 1) := by decide +kernel
theorem dX7_command_261 : decode cX7_command 261 = .ok (.invokevirtual 186, 3) := by decide +kernel
theorem dX7_command_264 : decode cX7_command 264 = .ok (.bipush 32, 2) := by decide +kernel
theorem dX7_command_266 : decode cX7_command 266 = .ok (.if_icmp .ne 11, 3) := by decide +kernel
theorem dX7_command_269 : decode cX7_command 269 = .ok (.aload_n 0, 1) := by decide +kernel
theorem dX7_command_270 : decode cX7_command 270 = .ok (.iconst 3, 1) := by decide +kernel
theorem dX7_command_271 : decode cX7_command 271 = .ok (.invokevirtual 207, 3) := by decide +kernel
theorem dX7_command_274 : decode cX7_command 274 = .ok (.goto 4, 3) := by decide +kernel
theorem dX7_command_277 : decode cX7_command 277 = .ok (.iconst 1, 1) := by decide +kernel
theorem dX7_command_278 : decode cX7_command 278 = .ok (.iastore, 1) := by decide +kernel
theorem dX7_command_279 : decode cX7_command 279 = .ok (.goto 16, 3) := by decide +kernel
theorem dX7_command_282 : decode cX7_command 282 = .ok (.aload_n 0, 1) := by decide +kernel
theorem dX7_command_283 : decode cX7_command 283 = .ok (.getfield 27, 3) := by decide +kernel
theorem dX7_command_286 : decode cX7_command 286 = .ok (.iload_n 1, 1) := by decide +kernel
theorem dX7_command_287 : decode cX7_command 287 = .ok (.iconst 1, 1) := by decide +kernel
theorem dX7_command_288 : decode cX7_command 288 = .ok (.iadd, 1) := by decide +kernel
theorem dX7_command_289 : decode cX7_command 289 = .ok (.aload_n 0, 1) := by decide +kernel
theorem dX7_command_290 : decode cX7_command 290 = .ok (.iconst 1, 1) := by decide +kernel
theorem dX7_command_291 : decode cX7_command 291 = .ok (.invokevirtual 207, 3) := by decide +kernel
theorem dX7_command_294 : decode cX7_command 294 = .ok (.iastore, 1) := by decide +kernel
theorem dX7_command_295 : decode cX7_command 295 = .ok (.return_, 1) := by decide +kernel
theorem dX7_parse_0 : decode cX7_parse 0 = .ok (.aload_n 0, 1) := by decide +kernel
theorem dX7_parse_1 : decode cX7_parse 1 = .ok (.iconst 0, 1) := by decide +kernel
theorem dX7_parse_2 : decode cX7_parse 2 = .ok (.putfield 180, 3) := by decide +kernel
theorem dX7_parse_5 : decode cX7_parse 5 = .ok (.aload_n 0, 1) := by decide +kernel
theorem dX7_parse_6 : decode cX7_parse 6 = .ok (.iconst (-1), 1) := by decide +kernel
theorem dX7_parse_7 : decode cX7_parse 7 = .ok (.putfield 183, 3) := by decide +kernel
theorem dX7_parse_10 : decode cX7_parse 10 = .ok (.aload_n 0, 1) := by decide +kernel
theorem dX7_parse_11 : decode cX7_parse 11 = .ok (.iconst 0, 1) := by decide +kernel
theorem dX7_parse_12 : decode cX7_parse 12 = .ok (.putfield 198, 3) := by decide +kernel
theorem dX7_parse_15 : decode cX7_parse 15 = .ok (.aload_n 0, 1) := by decide +kernel
theorem dX7_parse_16 : decode cX7_parse 16 = .ok (.invokevirtual 210, 3) := by decide +kernel
theorem dX7_parse_19 : decode cX7_parse 19 = .ok (.aload_n 0, 1) := by decide +kernel
theorem dX7_parse_20 : decode cX7_parse 20 = .ok (.getfield 183, 3) := by decide +kernel
theorem dX7_parse_23 : decode cX7_parse 23 = .ok (.ifCond .ge 29, 3) := by decide +kernel
theorem dX7_parse_26 : decode cX7_parse 26 = .ok (.aload_n 0, 1) := by decide +kernel
theorem dX7_parse_27 : decode cX7_parse 27 = .ok (.invokevirtual 186, 3) := by decide +kernel
theorem dX7_parse_30 : decode cX7_parse 30 = .ok (.bipush 59, 2) := by decide +kernel
theorem dX7_parse_32 : decode cX7_parse 32 = .ok (.if_icmp .ne 20, 3) := by decide +kernel
theorem dX7_parse_35 : decode cX7_parse 35 = .ok (.aload_n 0, 1) := by decide +kernel
theorem dX7_parse_36 : decode cX7_parse 36 = .ok (.dup, 1) := by decide +kernel
theorem dX7_parse_37 : decode cX7_parse 37 = .ok (.getfield 180, 3) := by decide +kernel
theorem dX7_parse_40 : decode cX7_parse 40 = .ok (.iconst 1, 1) := by decide +kernel
theorem dX7_parse_41 : decode cX7_parse 41 = .ok (.iadd, 1) := by decide +kernel
theorem dX7_parse_42 : decode cX7_parse 42 = .ok (.putfield 180, 3) := by decide +kernel
theorem dX7_parse_45 : decode cX7_parse 45 = .ok (.aload_n 0, 1) := by decide +kernel
theorem dX7_parse_46 : decode cX7_parse 46 = .ok (.invokevirtual 210, 3) := by decide +kernel
theorem dX7_parse_49 : decode cX7_parse 49 = .ok (.goto (-30), 3) := by decide +kernel
theorem dX7_parse_52 : decode cX7_parse 52 = .ok (.aload_n 0, 1) := by decide +kernel
theorem dX7_parse_53 : decode cX7_parse 53 = .ok (.getfield 183, 3) := by decide +kernel
theorem dX7_parse_56 : decode cX7_parse 56 = .ok (.ifCond .ge 22, 3) := by decide +kernel
theorem dX7_parse_59 : decode cX7_parse 59 = .ok (.aload_n 0, 1) := by decide +kernel
theorem dX7_parse_60 : decode cX7_parse 60 = .ok (.getfield 180, 3) := by decide +kernel
theorem dX7_parse_63 : decode cX7_parse 63 = .ok (.aload_n 0, 1) := by decide +kernel
theorem dX7_parse_64 : decode cX7_parse 64 = .ok (.getfield 177, 3) := by decide +kernel
theorem dX7_parse_67 : decode cX7_parse 67 = .ok (.if_icmp .ge 11, 3) := by decide +kernel
theorem dX7_parse_70 : decode cX7_parse 70 = .ok (.aload_n 0, 1) := by decide +kernel
theorem dX7_parse_71 : decode cX7_parse 71 = .ok (.aload_n 0, 1) := by decide +kernel
theorem dX7_parse_72 : decode cX7_parse 72 = .ok (.getfield 180, 3) := by decide +kernel
theorem dX7_parse_75 : decode cX7_parse 75 = .ok (.putfield 183, 3) := by decide +kernel
theorem dX7_parse_78 : decode cX7_parse 78 = .ok (.return_, 1) := by decide +kernel
theorem dX7_does_0 : decode cX7_does 0 = .ok (.aload_n 0, 1) := by decide +kernel
theorem dX7_does_1 : decode cX7_does 1 = .ok (.getfield 27, 3) := by decide +kernel
theorem dX7_does_4 : decode cX7_does 4 = .ok (.iload_n 1, 1) := by decide +kernel
theorem dX7_does_5 : decode cX7_does 5 = .ok (.iconst 1, 1) := by decide +kernel
theorem dX7_does_6 : decode cX7_does 6 = .ok (.iadd, 1) := by decide +kernel
theorem dX7_does_7 : decode cX7_does 7 = .ok (.iaload, 1) := by decide +kernel
theorem dX7_does_8 : decode cX7_does 8 = .ok (.istore_n 2, 1) := by decide +kernel
theorem dX7_does_9 : decode cX7_does 9 = .ok (.aload_n 0, 1) := by decide +kernel
theorem dX7_does_10 : decode cX7_does 10 = .ok (.getfield 27, 3) := by decide +kernel
theorem dX7_does_13 : decode cX7_does 13 = .ok (.iload_n 1, 1) := by decide +kernel
theorem dX7_does_14 : decode cX7_does 14 = .ok (.iaload, 1) := by decide +kernel
theorem dX7_does_15 : decode cX7_does 15 = .ok (.lookupswitch 119 #[(98, 57), (100, 112), (111, 93), (114, 105), (115, 99), (118, 79)], 57) := by decide +kernel
theorem dX7_does_72 : decode cX7_does 72 = .ok (.aload_n 0, 1) := by decide +kernel
theorem dX7_does_73 : decode cX7_does 73 = .ok (.iload_n 2, 1) := by decide +kernel
theorem dX7_does_74 : decode cX7_does 74 = .ok (.aload_n 0, 1) := by decide +kernel
theorem dX7_does_75 : decode cX7_does 75 = .ok (.getfield 27, 3) := by decide +kernel
theorem dX7_does_78 : decode cX7_does 78 = .ok (.iload_n 1, 1) := by decide +kernel
theorem dX7_does_79 : decode cX7_does 79 = .ok (.iconst 2, 1) := by decide +kernel
theorem dX7_does_80 : decode cX7_does 80 = .ok (.iadd, 1) := by decide +kernel
theorem dX7_does_81 : decode cX7_does 81 = .ok (.iaload, 1) := by decide +kernel
theorem dX7_does_82 : decode cX7_does 82 = .ok (.aload_n 0, 1) := by decide +kernel
theorem dX7_does_83 : decode cX7_does 83 = .ok (.getfield 27, 3) := by decide +kernel
theorem dX7_does_86 : decode cX7_does 86 = .ok (.iload_n 1, 1) := by decide +kernel
theorem dX7_does_87 : decode cX7_does 87 = .ok (.iconst 3, 1) := by decide +kernel
theorem dX7_does_88 : decode cX7_does 88 = .ok (.iadd, 1) := by decide +kernel
theorem dX7_does_89 : decode cX7_does 89 = .ok (.iaload, 1) := by decide +kernel
theorem dX7_does_90 : decode cX7_does 90 = .ok (.invokevirtual 98, 3) := by decide +kernel
theorem dX7_does_93 : decode cX7_does 93 = .ok (.ireturn, 1) := by decide +kernel
theorem dX7_does_94 : decode cX7_does 94 = .ok (.aload_n 0, 1) := by decide +kernel
theorem dX7_does_95 : decode cX7_does 95 = .ok (.iload_n 2, 1) := by decide +kernel
theorem dX7_does_96 : decode cX7_does 96 = .ok (.aload_n 0, 1) := by decide +kernel
theorem dX7_does_97 : decode cX7_does 97 = .ok (.getfield 27, 3) := by decide +kernel
theorem dX7_does_100 : decode cX7_does 100 = .ok (.iload_n 1, 1) := by decide +kernel
theorem dX7_does_101 : decode cX7_does 101 = .ok (.iconst 2, 1) := by decide +kernel
theorem dX7_does_102 : decode cX7_does 102 = .ok (.iadd, 1) := by decide +kernel
theorem dX7_does_103 : decode cX7_does 103 = .ok (.iaload, 1) := by decide +kernel
theorem dX7_does_104 : decode cX7_does 104 = .ok (.invokevirtual 109, 3) := by decide +kernel
theorem dX7_does_107 : decode cX7_does 107 = .ok (.ireturn, 1) := by decide +kernel
theorem dX7_does_108 : decode cX7_does 108 = .ok (.aload_n 0, 1) := by decide +kernel
theorem dX7_does_109 : decode cX7_does 109 = .ok (.iload_n 2, 1) := by decide +kernel
theorem dX7_does_110 : decode cX7_does 110 = .ok (.invokevirtual 116, 3) := by decide +kernel
theorem dX7_does_113 : decode cX7_does 113 = .ok (.ireturn, 1) := by decide +kernel
theorem dX7_does_114 : decode cX7_does 114 = .ok (.aload_n 0, 1) := by decide +kernel
theorem dX7_does_115 : decode cX7_does 115 = .ok (.iload_n 2, 1) := by decide +kernel
theorem dX7_does_116 : decode cX7_does 116 = .ok (.invokevirtual 119, 3) := by decide +kernel
theorem dX7_does_119 : decode cX7_does 119 = .ok (.ireturn, 1) := by decide +kernel
theorem dX7_does_120 : decode cX7_does 120 = .ok (.aload_n 0, 1) := by decide +kernel
theorem dX7_does_121 : decode cX7_does 121 = .ok (.iconst 1, 1) := by decide +kernel
theorem dX7_does_122 : decode cX7_does 122 = .ok (.iload_n 2, 1) := by decide +kernel
theorem dX7_does_123 : decode cX7_does 123 = .ok (.invokevirtual 122, 3) := by decide +kernel
theorem dX7_does_126 : decode cX7_does 126 = .ok (.ireturn, 1) := by decide +kernel
theorem dX7_does_127 : decode cX7_does 127 = .ok (.aload_n 0, 1) := by decide +kernel
theorem dX7_does_128 : decode cX7_does 128 = .ok (.iconst 2, 1) := by decide +kernel
theorem dX7_does_129 : decode cX7_does 129 = .ok (.iload_n 2, 1) := by decide +kernel
theorem dX7_does_130 : decode cX7_does 130 = .ok (.invokevirtual 122, 3) := by decide +kernel
theorem dX7_does_133 : decode cX7_does 133 = .ok (.ireturn, 1) := by decide +kernel
theorem dX7_does_134 : decode cX7_does 134 = .ok (.aload_n 0, 1) := by decide +kernel
theorem dX7_does_135 : decode cX7_does 135 = .ok (.iload_n 2, 1) := by decide +kernel
theorem dX7_does_136 : decode cX7_does 136 = .ok (.invokevirtual 128, 3) := by decide +kernel
theorem dX7_does_139 : decode cX7_does 139 = .ok (.ireturn, 1) := by decide +kernel
theorem dX7_runScript_0 : decode cX7_runScript 0 = .ok (.aload_n 0, 1) := by decide +kernel
theorem dX7_runScript_1 : decode cX7_runScript 1 = .ok (.invokevirtual 213, 3) := by decide +kernel
theorem dX7_runScript_4 : decode cX7_runScript 4 = .ok (.aload_n 0, 1) := by decide +kernel
theorem dX7_runScript_5 : decode cX7_runScript 5 = .ok (.iconst 0, 1) := by decide +kernel
theorem dX7_runScript_6 : decode cX7_runScript 6 = .ok (.putfield 177, 3) := by decide +kernel
theorem dX7_runScript_9 : decode cX7_runScript 9 = .ok (.aload_n 0, 1) := by decide +kernel
theorem dX7_runScript_10 : decode cX7_runScript 10 = .ok (.getfield 183, 3) := by decide +kernel
theorem dX7_runScript_13 : decode cX7_runScript 13 = .ok (.ifCond .lt 18, 3) := by decide +kernel
theorem dX7_runScript_16 : decode cX7_runScript 16 = .ok (.aload_n 0, 1) := by decide +kernel
theorem dX7_runScript_17 : decode cX7_runScript 17 = .ok (.aload_n 0, 1) := by decide +kernel
theorem dX7_runScript_18 : decode cX7_runScript 18 = .ok (.getfield 183, 3) := by decide +kernel
theorem dX7_runScript_21 : decode cX7_runScript 21 = .ok (.putfield 20, 3) := by decide +kernel
theorem dX7_runScript_24 : decode cX7_runScript 24 = .ok (.aload_n 0, 1) := by decide +kernel
theorem dX7_runScript_25 : decode cX7_runScript 25 = .ok (.iconst 1, 1) := by decide +kernel
theorem dX7_runScript_26 : decode cX7_runScript 26 = .ok (.putfield 30, 3) := by decide +kernel
theorem dX7_runScript_29 : decode cX7_runScript 29 = .ok (.iconst 0, 1) := by decide +kernel
theorem dX7_runScript_30 : decode cX7_runScript 30 = .ok (.ireturn, 1) := by decide +kernel
theorem dX7_runScript_31 : decode cX7_runScript 31 = .ok (.aload_n 0, 1) := by decide +kernel
theorem dX7_runScript_32 : decode cX7_runScript 32 = .ok (.invokevirtual 92, 3) := by decide +kernel
theorem dX7_runScript_35 : decode cX7_runScript 35 = .ok (.iconst 0, 1) := by decide +kernel
theorem dX7_runScript_36 : decode cX7_runScript 36 = .ok (.istore_n 1, 1) := by decide +kernel
theorem dX7_runScript_37 : decode cX7_runScript 37 = .ok (.iload_n 1, 1) := by decide +kernel
theorem dX7_runScript_38 : decode cX7_runScript 38 = .ok (.aload_n 0, 1) := by decide +kernel
theorem dX7_runScript_39 : decode cX7_runScript 39 = .ok (.getfield 198, 3) := by decide +kernel
theorem dX7_runScript_42 : decode cX7_runScript 42 = .ok (.if_icmp .ge 19, 3) := by decide +kernel
theorem dX7_runScript_45 : decode cX7_runScript 45 = .ok (.aload_n 0, 1) := by decide +kernel
theorem dX7_runScript_46 : decode cX7_runScript 46 = .ok (.iconst 4, 1) := by decide +kernel
theorem dX7_runScript_47 : decode cX7_runScript 47 = .ok (.iload_n 1, 1) := by decide +kernel
theorem dX7_runScript_48 : decode cX7_runScript 48 = .ok (.imul, 1) := by decide +kernel
theorem dX7_runScript_49 : decode cX7_runScript 49 = .ok (.invokevirtual 216, 3) := by decide +kernel
theorem dX7_runScript_52 : decode cX7_runScript 52 = .ok (.ifCond .ne 9, 3) := by decide +kernel
theorem dX7_runScript_55 : decode cX7_runScript 55 = .ok (.iinc 1 1, 3) := by decide +kernel
theorem dX7_runScript_58 : decode cX7_runScript 58 = .ok (.goto (-21), 3) := by decide +kernel
theorem dX7_runScript_61 : decode cX7_runScript 61 = .ok (.iload_n 1, 1) := by decide +kernel
theorem dX7_runScript_62 : decode cX7_runScript 62 = .ok (.aload_n 0, 1) := by decide +kernel
theorem dX7_runScript_63 : decode cX7_runScript 63 = .ok (.getfield 198, 3) := by decide +kernel
theorem dX7_runScript_66 : decode cX7_runScript 66 = .ok (.if_icmp .ne 7, 3) := by decide +kernel
theorem dX7_runScript_69 : decode cX7_runScript 69 = .ok (.iconst 1, 1) := by decide +kernel
theorem dX7_runScript_70 : decode cX7_runScript 70 = .ok (.goto 4, 3) := by decide +kernel
theorem dX7_runScript_73 : decode cX7_runScript 73 = .ok (.iconst 0, 1) := by decide +kernel
theorem dX7_runScript_74 : decode cX7_runScript 74 = .ok (.istore_n 2, 1) := by decide +kernel
theorem dX7_runScript_75 : decode cX7_runScript 75 = .ok (.aload_n 0, 1) := by decide +kernel
theorem dX7_runScript_76 : decode cX7_runScript 76 = .ok (.iload_n 2, 1) := by decide +kernel
theorem dX7_runScript_77 : decode cX7_runScript 77 = .ok (.ifCond .eq 10, 3) := by decide +kernel
theorem dX7_runScript_80 : decode cX7_runScript 80 = .ok (.aload_n 0, 1) := by decide +kernel
theorem dX7_runScript_81 : decode cX7_runScript 81 = .ok (.getfield 24, 3) := by decide +kernel
theorem dX7_runScript_84 : decode cX7_runScript 84 = .ok (.goto 4, 3) := by decide +kernel
theorem dX7_runScript_87 : decode cX7_runScript 87 = .ok (.iload_n 1, 1) := by decide +kernel
theorem dX7_runScript_88 : decode cX7_runScript 88 = .ok (.putfield 24, 3) := by decide +kernel
theorem dX7_runScript_91 : decode cX7_runScript 91 = .ok (.aload_n 0, 1) := by decide +kernel
theorem dX7_runScript_92 : decode cX7_runScript 92 = .ok (.aload_n 0, 1) := by decide +kernel
theorem dX7_runScript_93 : decode cX7_runScript 93 = .ok (.getfield 198, 3) := by decide +kernel
theorem dX7_runScript_96 : decode cX7_runScript 96 = .ok (.putfield 40, 3) := by decide +kernel
theorem dX7_runScript_99 : decode cX7_runScript 99 = .ok (.aload_n 0, 1) := by decide +kernel
theorem dX7_runScript_100 : decode cX7_runScript 100 = .ok (.iload_n 2, 1) := by decide +kernel
theorem dX7_runScript_101 : decode cX7_runScript 101 = .ok (.ifCond .eq 7, 3) := by decide +kernel
theorem dX7_runScript_104 : decode cX7_runScript 104 = .ok (.iconst 0, 1) := by decide +kernel
theorem dX7_runScript_105 : decode cX7_runScript 105 = .ok (.goto 4, 3) := by decide +kernel
theorem dX7_runScript_108 : decode cX7_runScript 108 = .ok (.iconst 3, 1) := by decide +kernel
theorem dX7_runScript_109 : decode cX7_runScript 109 = .ok (.iconst 0, 1) := by decide +kernel
theorem dX7_runScript_110 : decode cX7_runScript 110 = .ok (.iconst 0, 1) := by decide +kernel
theorem dX7_runScript_111 : decode cX7_runScript 111 = .ok (.iconst 2, 1) := by decide +kernel
theorem dX7_runScript_112 : decode cX7_runScript 112 = .ok (.iconst 0, 1) := by decide +kernel
theorem dX7_runScript_113 : decode cX7_runScript 113 = .ok (.invokevirtual 102, 3) := by decide +kernel
theorem dX7_runScript_116 : decode cX7_runScript 116 = .ok (.ireturn, 1) := by decide +kernel
theorem dX7_errorPosition_0 : decode cX7_errorPosition 0 = .ok (.aload_n 0, 1) := by decide +kernel
theorem dX7_errorPosition_1 : decode cX7_errorPosition 1 = .ok (.aload_n 0, 1) := by decide +kernel
theorem dX7_errorPosition_2 : decode cX7_errorPosition 2 = .ok (.getfield 20, 3) := by decide +kernel
theorem dX7_errorPosition_5 : decode cX7_errorPosition 5 = .ok (.iconst (-1), 1) := by decide +kernel
theorem dX7_errorPosition_6 : decode cX7_errorPosition 6 = .ok (.if_icmp .eq 7, 3) := by decide +kernel
theorem dX7_errorPosition_9 : decode cX7_errorPosition 9 = .ok (.iconst 1, 1) := by decide +kernel
theorem dX7_errorPosition_10 : decode cX7_errorPosition 10 = .ok (.goto 4, 3) := by decide +kernel
theorem dX7_errorPosition_13 : decode cX7_errorPosition 13 = .ok (.iconst 0, 1) := by decide +kernel
theorem dX7_errorPosition_14 : decode cX7_errorPosition 14 = .ok (.invokevirtual 134, 3) := by decide +kernel
theorem dX7_errorPosition_17 : decode cX7_errorPosition 17 = .ok (.ifCond .eq 10, 3) := by decide +kernel
theorem dX7_errorPosition_20 : decode cX7_errorPosition 20 = .ok (.aload_n 0, 1) := by decide +kernel
theorem dX7_errorPosition_21 : decode cX7_errorPosition 21 = .ok (.getfield 20, 3) := by decide +kernel
theorem dX7_errorPosition_24 : decode cX7_errorPosition 24 = .ok (.goto 4, 3) := by decide +kernel
theorem dX7_errorPosition_27 : decode cX7_errorPosition 27 = .ok (.iconst 0, 1) := by decide +kernel
theorem dX7_errorPosition_28 : decode cX7_errorPosition 28 = .ok (.ireturn, 1) := by decide +kernel
theorem dX7_failedCommand_0 : decode cX7_failedCommand 0 = .ok (.aload_n 0, 1) := by decide +kernel
theorem dX7_failedCommand_1 : decode cX7_failedCommand 1 = .ok (.aload_n 0, 1) := by decide +kernel
theorem dX7_failedCommand_2 : decode cX7_failedCommand 2 = .ok (.getfield 24, 3) := by decide +kernel
theorem dX7_failedCommand_5 : decode cX7_failedCommand 5 = .ok (.iconst (-1), 1) := by decide +kernel
theorem dX7_failedCommand_6 : decode cX7_failedCommand 6 = .ok (.if_icmp .eq 7, 3) := by decide +kernel
theorem dX7_failedCommand_9 : decode cX7_failedCommand 9 = .ok (.iconst 1, 1) := by decide +kernel
theorem dX7_failedCommand_10 : decode cX7_failedCommand 10 = .ok (.goto 4, 3) := by decide +kernel
theorem dX7_failedCommand_13 : decode cX7_failedCommand 13 = .ok (.iconst 0, 1) := by decide +kernel
theorem dX7_failedCommand_14 : decode cX7_failedCommand 14 = .ok (.invokevirtual 134, 3) := by decide +kernel
theorem dX7_failedCommand_17 : decode cX7_failedCommand 17 = .ok (.ifCond .eq 10, 3) := by decide +kernel
theorem dX7_failedCommand_20 : decode cX7_failedCommand 20 = .ok (.aload_n 0, 1) := by decide +kernel
theorem dX7_failedCommand_21 : decode cX7_failedCommand 21 = .ok (.getfield 24, 3) := by decide +kernel
theorem dX7_failedCommand_24 : decode cX7_failedCommand 24 = .ok (.goto 4, 3) := by decide +kernel
theorem dX7_failedCommand_27 : decode cX7_failedCommand 27 = .ok (.iconst 0, 1) := by decide +kernel
theorem dX7_failedCommand_28 : decode cX7_failedCommand 28 = .ok (.ireturn, 1) := by decide +kernel
theorem dX7_undo_0 : decode cX7_undo 0 = .ok (.aload_n 0, 1) := by decide +kernel
theorem dX7_undo_1 : decode cX7_undo 1 = .ok (.aload_n 0, 1) := by decide +kernel
theorem dX7_undo_2 : decode cX7_undo 2 = .ok (.getfield 37, 3) := by decide +kernel
theorem dX7_undo_5 : decode cX7_undo 5 = .ok (.ifCond .le 7, 3) := by decide +kernel
theorem dX7_undo_8 : decode cX7_undo 8 = .ok (.iconst 1, 1) := by decide +kernel
theorem dX7_undo_9 : decode cX7_undo 9 = .ok (.goto 4, 3) := by decide +kernel
theorem dX7_undo_12 : decode cX7_undo 12 = .ok (.iconst 0, 1) := by decide +kernel
theorem dX7_undo_13 : decode cX7_undo 13 = .ok (.invokevirtual 134, 3) := by decide +kernel
theorem dX7_undo_16 : decode cX7_undo 16 = .ok (.ifCond .ne 5, 3) := by decide +kernel
theorem dX7_undo_19 : decode cX7_undo 19 = .ok (.iconst 0, 1) := by decide +kernel
theorem dX7_undo_20 : decode cX7_undo 20 = .ok (.ireturn, 1) := by decide +kernel
theorem dX7_undo_21 : decode cX7_undo 21 = .ok (.aload_n 0, 1) := by decide +kernel
theorem dX7_undo_22 : decode cX7_undo 22 = .ok (.aload_n 0, 1) := by decide +kernel
theorem dX7_undo_23 : decode cX7_undo 23 = .ok (.getfield 37, 3) := by decide +kernel
theorem dX7_undo_26 : decode cX7_undo 26 = .ok (.iconst 0, 1) := by decide +kernel
theorem dX7_undo_27 : decode cX7_undo 27 = .ok (.invokevirtual 33, 3) := by decide +kernel
theorem dX7_undo_30 : decode cX7_undo 30 = .ok (.aload_n 0, 1) := by decide +kernel
theorem dX7_undo_31 : decode cX7_undo 31 = .ok (.dup, 1) := by decide +kernel
theorem dX7_undo_32 : decode cX7_undo 32 = .ok (.getfield 37, 3) := by decide +kernel
theorem dX7_undo_35 : decode cX7_undo 35 = .ok (.iconst 1, 1) := by decide +kernel
theorem dX7_undo_36 : decode cX7_undo 36 = .ok (.isub, 1) := by decide +kernel
theorem dX7_undo_37 : decode cX7_undo 37 = .ok (.putfield 37, 3) := by decide +kernel
theorem dX7_undo_40 : decode cX7_undo 40 = .ok (.aload_n 0, 1) := by decide +kernel
theorem dX7_undo_41 : decode cX7_undo 41 = .ok (.getfield 37, 3) := by decide +kernel
theorem dX7_undo_44 : decode cX7_undo 44 = .ok (.ireturn, 1) := by decide +kernel
theorem dX7_save_0 : decode cX7_save 0 = .ok (.aload_n 0, 1) := by decide +kernel
theorem dX7_save_1 : decode cX7_save 1 = .ok (.iconst 0, 1) := by decide +kernel
theorem dX7_save_2 : decode cX7_save 2 = .ok (.putfield 30, 3) := by decide +kernel
theorem dX7_save_5 : decode cX7_save 5 = .ok (.aload_n 0, 1) := by decide +kernel
theorem dX7_save_6 : decode cX7_save 6 = .ok (.iconst 1, 1) := by decide +kernel
theorem dX7_save_7 : decode cX7_save 7 = .ok (.putfield 219, 3) := by decide +kernel
theorem dX7_save_10 : decode cX7_save 10 = .ok (.aload_n 0, 1) := by decide +kernel
theorem dX7_save_11 : decode cX7_save 11 = .ok (.iconst 0, 1) := by decide +kernel
theorem dX7_save_12 : decode cX7_save 12 = .ok (.bipush 9, 2) := by decide +kernel
theorem dX7_save_14 : decode cX7_save 14 = .ok (.invokevirtual 33, 3) := by decide +kernel
theorem dX7_save_17 : decode cX7_save 17 = .ok (.aload_n 0, 1) := by decide +kernel
theorem dX7_save_18 : decode cX7_save 18 = .ok (.getfield 9, 3) := by decide +kernel
theorem dX7_save_21 : decode cX7_save 21 = .ok (.bipush 6, 2) := by decide +kernel
theorem dX7_save_23 : decode cX7_save 23 = .ok (.iaload, 1) := by decide +kernel
theorem dX7_save_24 : decode cX7_save 24 = .ok (.ireturn, 1) := by decide +kernel
theorem dX7_restore_0 : decode cX7_restore 0 = .ok (.aload_n 0, 1) := by decide +kernel
theorem dX7_restore_1 : decode cX7_restore 1 = .ok (.aload_n 0, 1) := by decide +kernel
theorem dX7_restore_2 : decode cX7_restore 2 = .ok (.getfield 219, 3) := by decide +kernel
theorem dX7_restore_5 : decode cX7_restore 5 = .ok (.invokevirtual 134, 3) := by decide +kernel
theorem dX7_restore_8 : decode cX7_restore 8 = .ok (.ifCond .ne 5, 3) := by decide +kernel
theorem dX7_restore_11 : decode cX7_restore 11 = .ok (.iconst 0, 1) := by decide +kernel
theorem dX7_restore_12 : decode cX7_restore 12 = .ok (.ireturn, 1) := by decide +kernel
theorem dX7_restore_13 : decode cX7_restore 13 = .ok (.aload_n 0, 1) := by decide +kernel
theorem dX7_restore_14 : decode cX7_restore 14 = .ok (.bipush 9, 2) := by decide +kernel
theorem dX7_restore_16 : decode cX7_restore 16 = .ok (.iconst 0, 1) := by decide +kernel
theorem dX7_restore_17 : decode cX7_restore 17 = .ok (.invokevirtual 33, 3) := by decide +kernel
theorem dX7_restore_20 : decode cX7_restore 20 = .ok (.aload_n 0, 1) := by decide +kernel
theorem dX7_restore_21 : decode cX7_restore 21 = .ok (.iconst 0, 1) := by decide +kernel
theorem dX7_restore_22 : decode cX7_restore 22 = .ok (.putfield 37, 3) := by decide +kernel
theorem dX7_restore_25 : decode cX7_restore 25 = .ok (.aload_n 0, 1) := by decide +kernel
theorem dX7_restore_26 : decode cX7_restore 26 = .ok (.getfield 9, 3) := by decide +kernel
theorem dX7_restore_29 : decode cX7_restore 29 = .ok (.bipush 6, 2) := by decide +kernel
theorem dX7_restore_31 : decode cX7_restore 31 = .ok (.iaload, 1) := by decide +kernel
theorem dX7_restore_32 : decode cX7_restore 32 = .ok (.ireturn, 1) := by decide +kernel
