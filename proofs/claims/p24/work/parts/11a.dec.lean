theorem dX0_init_0 : decode cX0_init 0 = .ok (.aload_n 0, 1) := by decide +kernel
theorem dX0_init_1 : decode cX0_init 1 = .ok (.invokespecial 3, 3) := by decide +kernel
theorem dX0_init_4 : decode cX0_init 4 = .ok (.aload_n 0, 1) := by decide +kernel
theorem dX0_init_5 : decode cX0_init 5 = .ok (.new 9, 3) := by decide +kernel
theorem dX0_init_8 : decode cX0_init 8 = .ok (.dup, 1) := by decide +kernel
theorem dX0_init_9 : decode cX0_init 9 = .ok (.invokespecial 11, 3) := by decide +kernel
theorem dX0_init_12 : decode cX0_init 12 = .ok (.putfield 12, 3) := by decide +kernel
theorem dX0_init_15 : decode cX0_init 15 = .ok (.aload_n 0, 1) := by decide +kernel
theorem dX0_init_16 : decode cX0_init 16 = .ok (.new 9, 3) := by decide +kernel
theorem dX0_init_19 : decode cX0_init 19 = .ok (.dup, 1) := by decide +kernel
theorem dX0_init_20 : decode cX0_init 20 = .ok (.invokespecial 11, 3) := by decide +kernel
theorem dX0_init_23 : decode cX0_init 23 = .ok (.putfield 18, 3) := by decide +kernel
theorem dX0_init_26 : decode cX0_init 26 = .ok (.aload_n 0, 1) := by decide +kernel
theorem dX0_init_27 : decode cX0_init 27 = .ok (.iconst 1, 1) := by decide +kernel
theorem dX0_init_28 : decode cX0_init 28 = .ok (.putfield 21, 3) := by decide +kernel
theorem dX0_init_31 : decode cX0_init 31 = .ok (.aload_n 0, 1) := by decide +kernel
theorem dX0_init_32 : decode cX0_init 32 = .ok (.bipush (-6), 2) := by decide +kernel
theorem dX0_init_34 : decode cX0_init 34 = .ok (.putfield 25, 3) := by decide +kernel
theorem dX0_init_37 : decode cX0_init 37 = .ok (.aload_n 0, 1) := by decide +kernel
theorem dX0_init_38 : decode cX0_init 38 = .ok (.bipush (-6), 2) := by decide +kernel
theorem dX0_init_40 : decode cX0_init 40 = .ok (.putfield 29, 3) := by decide +kernel
theorem dX0_init_43 : decode cX0_init 43 = .ok (.aload_n 0, 1) := by decide +kernel
theorem dX0_init_44 : decode cX0_init 44 = .ok (.bipush (-6), 2) := by decide +kernel
theorem dX0_init_46 : decode cX0_init 46 = .ok (.putfield 32, 3) := by decide +kernel
theorem dX0_init_49 : decode cX0_init 49 = .ok (.aload_n 0, 1) := by decide +kernel
theorem dX0_init_50 : decode cX0_init 50 = .ok (.bipush (-6), 2) := by decide +kernel
theorem dX0_init_52 : decode cX0_init 52 = .ok (.putfield 35, 3) := by decide +kernel
theorem dX0_init_55 : decode cX0_init 55 = .ok (.aload_n 0, 1) := by decide +kernel
theorem dX0_init_56 : decode cX0_init 56 = .ok (.bipush 48, 2) := by decide +kernel
theorem dX0_init_58 : decode cX0_init 58 = .ok (.putfield 38, 3) := by decide +kernel
theorem dX0_init_61 : decode cX0_init 61 = .ok (.aload_n 0, 1) := by decide +kernel
theorem dX0_init_62 : decode cX0_init 62 = .ok (.bipush 10, 2) := by decide +kernel
theorem dX0_init_64 : decode cX0_init 64 = .ok (.newarray .int, 2) := by decide +kernel
theorem dX0_init_66 : decode cX0_init 66 = .ok (.putfield 41, 3) := by decide +kernel
theorem dX0_init_69 : decode cX0_init 69 = .ok (.aload_n 0, 1) := by decide +kernel
theorem dX0_init_70 : decode cX0_init 70 = .ok (.bipush 10, 2) := by decide +kernel
theorem dX0_init_72 : decode cX0_init 72 = .ok (.newarray .int, 2) := by decide +kernel
theorem dX0_init_74 : decode cX0_init 74 = .ok (.putfield 45, 3) := by decide +kernel
theorem dX0_init_77 : decode cX0_init 77 = .ok (.aload_n 0, 1) := by decide +kernel
theorem dX0_init_78 : decode cX0_init 78 = .ok (.bipush 10, 2) := by decide +kernel
theorem dX0_init_80 : decode cX0_init 80 = .ok (.newarray .int, 2) := by decide +kernel
theorem dX0_init_82 : decode cX0_init 82 = .ok (.putfield 48, 3) := by decide +kernel
theorem dX0_init_85 : decode cX0_init 85 = .ok (.aload_n 0, 1) := by decide +kernel
theorem dX0_init_86 : decode cX0_init 86 = .ok (.bipush 10, 2) := by decide +kernel
theorem dX0_init_88 : decode cX0_init 88 = .ok (.newarray .int, 2) := by decide +kernel
theorem dX0_init_90 : decode cX0_init 90 = .ok (.putfield 51, 3) := by decide +kernel
theorem dX0_init_93 : decode cX0_init 93 = .ok (.aload_n 0, 1) := by decide +kernel
theorem dX0_init_94 : decode cX0_init 94 = .ok (.aload_n 1, 1) := by decide +kernel
theorem dX0_init_95 : decode cX0_init 95 = .ok (.putfield 54, 3) := by decide +kernel
theorem dX0_init_98 : decode cX0_init 98 = .ok (.return_, 1) := by decide +kernel
theorem dX0_copyFrom_0 : decode cX0_copyFrom 0 = .ok (.aload_n 0, 1) := by decide +kernel
theorem dX0_copyFrom_1 : decode cX0_copyFrom 1 = .ok (.getfield 12, 3) := by decide +kernel
theorem dX0_copyFrom_4 : decode cX0_copyFrom 4 = .ok (.aload_n 1, 1) := by decide +kernel
theorem dX0_copyFrom_5 : decode cX0_copyFrom 5 = .ok (.getfield 12, 3) := by decide +kernel
theorem dX0_copyFrom_8 : decode cX0_copyFrom 8 = .ok (.invokevirtual 58, 3) := by decide +kernel
theorem dX0_copyFrom_11 : decode cX0_copyFrom 11 = .ok (.aload_n 0, 1) := by decide +kernel
theorem dX0_copyFrom_12 : decode cX0_copyFrom 12 = .ok (.getfield 18, 3) := by decide +kernel
theorem dX0_copyFrom_15 : decode cX0_copyFrom 15 = .ok (.aload_n 1, 1) := by decide +kernel
theorem dX0_copyFrom_16 : decode cX0_copyFrom 16 = .ok (.getfield 18, 3) := by decide +kernel
theorem dX0_copyFrom_19 : decode cX0_copyFrom 19 = .ok (.invokevirtual 58, 3) := by decide +kernel
theorem dX0_copyFrom_22 : decode cX0_copyFrom 22 = .ok (.aload_n 0, 1) := by decide +kernel
theorem dX0_copyFrom_23 : decode cX0_copyFrom 23 = .ok (.aload_n 1, 1) := by decide +kernel
theorem dX0_copyFrom_24 : decode cX0_copyFrom 24 = .ok (.getfield 21, 3) := by decide +kernel
theorem dX0_copyFrom_27 : decode cX0_copyFrom 27 = .ok (.putfield 21, 3) := by decide +kernel
theorem dX0_copyFrom_30 : decode cX0_copyFrom 30 = .ok (.aload_n 0, 1) := by decide +kernel
theorem dX0_copyFrom_31 : decode cX0_copyFrom 31 = .ok (.aload_n 1, 1) := by decide +kernel
theorem dX0_copyFrom_32 : decode cX0_copyFrom 32 = .ok (.getfield 25, 3) := by decide +kernel
theorem dX0_copyFrom_35 : decode cX0_copyFrom 35 = .ok (.putfield 25, 3) := by decide +kernel
theorem dX0_copyFrom_38 : decode cX0_copyFrom 38 = .ok (.aload_n 0, 1) := by decide +kernel
theorem dX0_copyFrom_39 : decode cX0_copyFrom 39 = .ok (.aload_n 1, 1) := by decide +kernel
theorem dX0_copyFrom_40 : decode cX0_copyFrom 40 = .ok (.getfield 29, 3) := by decide +kernel
theorem dX0_copyFrom_43 : decode cX0_copyFrom 43 = .ok (.putfield 29, 3) := by decide +kernel
theorem dX0_copyFrom_46 : decode cX0_copyFrom 46 = .ok (.aload_n 0, 1) := by decide +kernel
theorem dX0_copyFrom_47 : decode cX0_copyFrom 47 = .ok (.aload_n 1, 1) := by decide +kernel
theorem dX0_copyFrom_48 : decode cX0_copyFrom 48 = .ok (.getfield 32, 3) := by decide +kernel
theorem dX0_copyFrom_51 : decode cX0_copyFrom 51 = .ok (.putfield 32, 3) := by decide +kernel
theorem dX0_copyFrom_54 : decode cX0_copyFrom 54 = .ok (.aload_n 0, 1) := by decide +kernel
theorem dX0_copyFrom_55 : decode cX0_copyFrom 55 = .ok (.aload_n 1, 1) := by decide +kernel
theorem dX0_copyFrom_56 : decode cX0_copyFrom 56 = .ok (.getfield 35, 3) := by decide +kernel
theorem dX0_copyFrom_59 : decode cX0_copyFrom 59 = .ok (.putfield 35, 3) := by decide +kernel
theorem dX0_copyFrom_62 : decode cX0_copyFrom 62 = .ok (.aload_n 0, 1) := by decide +kernel
theorem dX0_copyFrom_63 : decode cX0_copyFrom 63 = .ok (.aload_n 1, 1) := by decide +kernel
theorem dX0_copyFrom_64 : decode cX0_copyFrom 64 = .ok (.getfield 38, 3) := by decide +kernel
theorem dX0_copyFrom_67 : decode cX0_copyFrom 67 = .ok (.putfield 38, 3) := by decide +kernel
theorem dX0_copyFrom_70 : decode cX0_copyFrom 70 = .ok (.aload_n 0, 1) := by decide +kernel
theorem dX0_copyFrom_71 : decode cX0_copyFrom 71 = .ok (.aload_n 1, 1) := by decide +kernel
theorem dX0_copyFrom_72 : decode cX0_copyFrom 72 = .ok (.getfield 62, 3) := by decide +kernel
theorem dX0_copyFrom_75 : decode cX0_copyFrom 75 = .ok (.putfield 62, 3) := by decide +kernel
theorem dX0_copyFrom_78 : decode cX0_copyFrom 78 = .ok (.aload_n 1, 1) := by decide +kernel
theorem dX0_copyFrom_79 : decode cX0_copyFrom 79 = .ok (.getfield 41, 3) := by decide +kernel
theorem dX0_copyFrom_82 : decode cX0_copyFrom 82 = .ok (.iconst 0, 1) := by decide +kernel
theorem dX0_copyFrom_83 : decode cX0_copyFrom 83 = .ok (.aload_n 0, 1) := by decide +kernel
theorem dX0_copyFrom_84 : decode cX0_copyFrom 84 = .ok (.getfield 41, 3) := by decide +kernel
theorem dX0_copyFrom_87 : decode cX0_copyFrom 87 = .ok (.iconst 0, 1) := by decide +kernel
theorem dX0_copyFrom_88 : decode cX0_copyFrom 88 = .ok (.bipush 10, 2) := by decide +kernel
theorem dX0_copyFrom_90 : decode cX0_copyFrom 90 = .ok (.invokestatic 65, 3) := by decide +kernel
theorem dX0_copyFrom_93 : decode cX0_copyFrom 93 = .ok (.aload_n 1, 1) := by decide +kernel
theorem dX0_copyFrom_94 : decode cX0_copyFrom 94 = .ok (.getfield 45, 3) := by decide +kernel
theorem dX0_copyFrom_97 : decode cX0_copyFrom 97 = .ok (.iconst 0, 1) := by decide +kernel
theorem dX0_copyFrom_98 : decode cX0_copyFrom 98 = .ok (.aload_n 0, 1) := by decide +kernel
theorem dX0_copyFrom_99 : decode cX0_copyFrom 99 = .ok (.getfield 45, 3) := by decide +kernel
theorem dX0_copyFrom_102 : decode cX0_copyFrom 102 = .ok (.iconst 0, 1) := by decide +kernel
theorem dX0_copyFrom_103 : decode cX0_copyFrom 103 = .ok (.bipush 10, 2) := by decide +kernel
theorem dX0_copyFrom_105 : decode cX0_copyFrom 105 = .ok (.invokestatic 65, 3) := by decide +kernel
theorem dX0_copyFrom_108 : decode cX0_copyFrom 108 = .ok (.return_, 1) := by decide +kernel
theorem dX0_isPowered_0 : decode cX0_isPowered 0 = .ok (.aload_n 0, 1) := by decide +kernel
theorem dX0_isPowered_1 : decode cX0_isPowered 1 = .ok (.getfield 21, 3) := by decide +kernel
theorem dX0_isPowered_4 : decode cX0_isPowered 4 = .ok (.ireturn, 1) := by decide +kernel
theorem dX0_isReady_0 : decode cX0_isReady 0 = .ok (.aload_n 0, 1) := by decide +kernel
theorem dX0_isReady_1 : decode cX0_isReady 1 = .ok (.getfield 21, 3) := by decide +kernel
theorem dX0_isReady_4 : decode cX0_isReady 4 = .ok (.ifCond .eq 16, 3) := by decide +kernel
theorem dX0_isReady_7 : decode cX0_isReady 7 = .ok (.aload_n 0, 1) := by decide +kernel
theorem dX0_isReady_8 : decode cX0_isReady 8 = .ok (.getfield 29, 3) := by decide +kernel
theorem dX0_isReady_11 : decode cX0_isReady 11 = .ok (.bipush (-6), 2) := by decide +kernel
theorem dX0_isReady_13 : decode cX0_isReady 13 = .ok (.if_icmp .eq 7, 3) := by decide +kernel
theorem dX0_isReady_16 : decode cX0_isReady 16 = .ok (.iconst 1, 1) := by decide +kernel
theorem dX0_isReady_17 : decode cX0_isReady 17 = .ok (.goto 4, 3) := by decide +kernel
theorem dX0_isReady_20 : decode cX0_isReady 20 = .ok (.iconst 0, 1) := by decide +kernel
theorem dX0_isReady_21 : decode cX0_isReady 21 = .ok (.ireturn, 1) := by decide +kernel
theorem dX0_writesLeft_0 : decode cX0_writesLeft 0 = .ok (.aload_n 0, 1) := by decide +kernel
theorem dX0_writesLeft_1 : decode cX0_writesLeft 1 = .ok (.getfield 25, 3) := by decide +kernel
theorem dX0_writesLeft_4 : decode cX0_writesLeft 4 = .ok (.ireturn, 1) := by decide +kernel
theorem dX0_active_0 : decode cX0_active 0 = .ok (.aload_n 0, 1) := by decide +kernel
theorem dX0_active_1 : decode cX0_active 1 = .ok (.getfield 29, 3) := by decide +kernel
theorem dX0_active_4 : decode cX0_active 4 = .ok (.ireturn, 1) := by decide +kernel
theorem dX0_version_0 : decode cX0_version 0 = .ok (.aload_n 0, 1) := by decide +kernel
theorem dX0_version_1 : decode cX0_version 1 = .ok (.getfield 32, 3) := by decide +kernel
theorem dX0_version_4 : decode cX0_version 4 = .ok (.ireturn, 1) := by decide +kernel
theorem dX0_sequence_0 : decode cX0_sequence 0 = .ok (.aload_n 0, 1) := by decide +kernel
theorem dX0_sequence_1 : decode cX0_sequence 1 = .ok (.getfield 35, 3) := by decide +kernel
theorem dX0_sequence_4 : decode cX0_sequence 4 = .ok (.ireturn, 1) := by decide +kernel
theorem dX0_badRecords_0 : decode cX0_badRecords 0 = .ok (.aload_n 0, 1) := by decide +kernel
theorem dX0_badRecords_1 : decode cX0_badRecords 1 = .ok (.getfield 62, 3) := by decide +kernel
theorem dX0_badRecords_4 : decode cX0_badRecords 4 = .ok (.ireturn, 1) := by decide +kernel
theorem dX0_pageOf_0 : decode cX0_pageOf 0 = .ok (.iload_n 1, 1) := by decide +kernel
theorem dX0_pageOf_1 : decode cX0_pageOf 1 = .ok (.iconst 1, 1) := by decide +kernel
theorem dX0_pageOf_2 : decode cX0_pageOf 2 = .ok (.if_icmp .ne 10, 3) := by decide +kernel
theorem dX0_pageOf_5 : decode cX0_pageOf 5 = .ok (.aload_n 0, 1) := by decide +kernel
theorem dX0_pageOf_6 : decode cX0_pageOf 6 = .ok (.getfield 18, 3) := by decide +kernel
theorem dX0_pageOf_9 : decode cX0_pageOf 9 = .ok (.goto 7, 3) := by decide +kernel
theorem dX0_pageOf_12 : decode cX0_pageOf 12 = .ok (.aload_n 0, 1) := by decide +kernel
theorem dX0_pageOf_13 : decode cX0_pageOf 13 = .ok (.getfield 12, 3) := by decide +kernel
theorem dX0_pageOf_16 : decode cX0_pageOf 16 = .ok (.areturn, 1) := by decide +kernel
theorem dX0_presentLayout_0 : decode cX0_presentLayout 0 = .ok (.aload_n 0, 1) := by decide +kernel
theorem dX0_presentLayout_1 : decode cX0_presentLayout 1 = .ok (.getfield 54, 3) := by decide +kernel
theorem dX0_presentLayout_4 : decode cX0_presentLayout 4 = .ok (.aload_n 0, 1) := by decide +kernel
theorem dX0_presentLayout_5 : decode cX0_presentLayout 5 = .ok (.getfield 32, 3) := by decide +kernel
theorem dX0_presentLayout_8 : decode cX0_presentLayout 8 = .ok (.invokevirtual 71, 3) := by decide +kernel
theorem dX0_presentLayout_11 : decode cX0_presentLayout 11 = .ok (.areturn, 1) := by decide +kernel
theorem dX0_valueOf_0 : decode cX0_valueOf 0 = .ok (.iload_n 1, 1) := by decide +kernel
theorem dX0_valueOf_1 : decode cX0_valueOf 1 = .ok (.invokestatic 77, 3) := by decide +kernel
theorem dX0_valueOf_4 : decode cX0_valueOf 4 = .ok (.ifCond .eq 12, 3) := by decide +kernel
theorem dX0_valueOf_7 : decode cX0_valueOf 7 = .ok (.aload_n 0, 1) := by decide +kernel
theorem dX0_valueOf_8 : decode cX0_valueOf 8 = .ok (.getfield 41, 3) := by decide +kernel
theorem dX0_valueOf_11 : decode cX0_valueOf 11 = .ok (.iload_n 1, 1) := by decide +kernel
theorem dX0_valueOf_12 : decode cX0_valueOf 12 = .ok (.iaload, 1) := by decide +kernel
theorem dX0_valueOf_13 : decode cX0_valueOf 13 = .ok (.goto 5, 3) := by decide +kernel
theorem dX0_valueOf_16 : decode cX0_valueOf 16 = .ok (.bipush (-6), 2) := by decide +kernel
theorem dX0_valueOf_18 : decode cX0_valueOf 18 = .ok (.ireturn, 1) := by decide +kernel
theorem dX0_placeOf_0 : decode cX0_placeOf 0 = .ok (.iload_n 1, 1) := by decide +kernel
theorem dX0_placeOf_1 : decode cX0_placeOf 1 = .ok (.invokestatic 77, 3) := by decide +kernel
theorem dX0_placeOf_4 : decode cX0_placeOf 4 = .ok (.ifCond .eq 12, 3) := by decide +kernel
theorem dX0_placeOf_7 : decode cX0_placeOf 7 = .ok (.aload_n 0, 1) := by decide +kernel
theorem dX0_placeOf_8 : decode cX0_placeOf 8 = .ok (.getfield 45, 3) := by decide +kernel
theorem dX0_placeOf_11 : decode cX0_placeOf 11 = .ok (.iload_n 1, 1) := by decide +kernel
theorem dX0_placeOf_12 : decode cX0_placeOf 12 = .ok (.iaload, 1) := by decide +kernel
theorem dX0_placeOf_13 : decode cX0_placeOf 13 = .ok (.goto 5, 3) := by decide +kernel
theorem dX0_placeOf_16 : decode cX0_placeOf 16 = .ok (.bipush (-6), 2) := by decide +kernel
theorem dX0_placeOf_18 : decode cX0_placeOf 18 = .ok (.ireturn, 1) := by decide +kernel
theorem dX0_countRoom_0 : decode cX0_countRoom 0 = .ok (.bipush 48, 2) := by decide +kernel
theorem dX0_countRoom_2 : decode cX0_countRoom 2 = .ok (.aload_n 0, 1) := by decide +kernel
theorem dX0_countRoom_3 : decode cX0_countRoom 3 = .ok (.getfield 38, 3) := by decide +kernel
theorem dX0_countRoom_6 : decode cX0_countRoom 6 = .ok (.isub, 1) := by decide +kernel
theorem dX0_countRoom_7 : decode cX0_countRoom 7 = .ok (.iconst 3, 1) := by decide +kernel
theorem dX0_countRoom_8 : decode cX0_countRoom 8 = .ok (.idiv, 1) := by decide +kernel
theorem dX0_countRoom_9 : decode cX0_countRoom 9 = .ok (.ireturn, 1) := by decide +kernel
theorem dX0_countSettings_0 : decode cX0_countSettings 0 = .ok (.iconst 0, 1) := by decide +kernel
theorem dX0_countSettings_1 : decode cX0_countSettings 1 = .ok (.istore_n 1, 1) := by decide +kernel
theorem dX0_countSettings_2 : decode cX0_countSettings 2 = .ok (.iconst 0, 1) := by decide +kernel
theorem dX0_countSettings_3 : decode cX0_countSettings 3 = .ok (.istore_n 2, 1) := by decide +kernel
theorem dX0_countSettings_4 : decode cX0_countSettings 4 = .ok (.iload_n 2, 1) := by decide +kernel
theorem dX0_countSettings_5 : decode cX0_countSettings 5 = .ok (.bipush 10, 2) := by decide +kernel
theorem dX0_countSettings_7 : decode cX0_countSettings 7 = .ok (.if_icmp .ge 23, 3) := by decide +kernel
theorem dX0_countSettings_10 : decode cX0_countSettings 10 = .ok (.aload_n 0, 1) := by decide +kernel
theorem dX0_countSettings_11 : decode cX0_countSettings 11 = .ok (.invokevirtual 81, 3) := by decide +kernel
theorem dX0_countSettings_14 : decode cX0_countSettings 14 = .ok (.iload_n 2, 1) := by decide +kernel
theorem dX0_countSettings_15 : decode cX0_countSettings 15 = .ok (.invokevirtual 85, 3) := by decide +kernel
theorem dX0_countSettings_18 : decode cX0_countSettings 18 = .ok (.ifCond .eq 6, 3) := by decide +kernel
theorem dX0_countSettings_21 : decode cX0_countSettings 21 = .ok (.iinc 1 1, 3) := by decide +kernel
theorem dX0_countSettings_24 : decode cX0_countSettings 24 = .ok (.iinc 2 1, 3) := by decide +kernel
theorem dX0_countSettings_27 : decode cX0_countSettings 27 = .ok (.goto (-23), 3) := by decide +kernel
theorem dX0_countSettings_30 : decode cX0_countSettings 30 = .ok (.iload_n 1, 1) := by decide +kernel
theorem dX0_countSettings_31 : decode cX0_countSettings 31 = .ok (.ireturn, 1) := by decide +kernel
theorem dX0_countChangedSettings_0 : decode cX0_countChangedSettings 0 = .ok (.iconst 0, 1) := by decide +kernel
theorem dX0_countChangedSettings_1 : decode cX0_countChangedSettings 1 = .ok (.istore_n 1, 1) := by decide +kernel
theorem dX0_countChangedSettings_2 : decode cX0_countChangedSettings 2 = .ok (.iconst 0, 1) := by decide +kernel
theorem dX0_countChangedSettings_3 : decode cX0_countChangedSettings 3 = .ok (.istore_n 2, 1) := by decide +kernel
theorem dX0_countChangedSettings_4 : decode cX0_countChangedSettings 4 = .ok (.iload_n 2, 1) := by decide +kernel
theorem dX0_countChangedSettings_5 : decode cX0_countChangedSettings 5 = .ok (.bipush 10, 2) := by decide +kernel
theorem dX0_countChangedSettings_7 : decode cX0_countChangedSettings 7 = .ok (.if_icmp .ge 40, 3) := by decide +kernel
theorem dX0_countChangedSettings_10 : decode cX0_countChangedSettings 10 = .ok (.aload_n 0, 1) := by decide +kernel
theorem dX0_countChangedSettings_11 : decode cX0_countChangedSettings 11 = .ok (.invokevirtual 81, 3) := by decide +kernel
theorem dX0_countChangedSettings_14 : decode cX0_countChangedSettings 14 = .ok (.iload_n 2, 1) := by decide +kernel
theorem dX0_countChangedSettings_15 : decode cX0_countChangedSettings 15 = .ok (.invokevirtual 85, 3) := by decide +kernel
theorem dX0_countChangedSettings_18 : decode cX0_countChangedSettings 18 = .ok (.ifCond .eq 23, 3) := by decide +kernel
theorem dX0_countChangedSettings_21 : decode cX0_countChangedSettings 21 = .ok (.aload_n 0, 1) := by decide +kernel
theorem dX0_countChangedSettings_22 : decode cX0_countChangedSettings 22 = .ok (.getfield 41, 3) := by decide +kernel
theorem dX0_countChangedSettings_25 : decode cX0_countChangedSettings 25 = .ok (.iload_n 2, 1) := by decide +kernel
theorem dX0_countChangedSettings_26 : decode cX0_countChangedSettings 26 = .ok (.iaload, 1) := by decide +kernel
theorem dX0_countChangedSettings_27 : decode cX0_countChangedSettings 27 = .ok (.aload_n 0, 1) := by decide +kernel
theorem dX0_countChangedSettings_28 : decode cX0_countChangedSettings 28 = .ok (.invokevirtual 81, 3) := by decide +kernel
theorem dX0_countChangedSettings_31 : decode cX0_countChangedSettings 31 = .ok (.iload_n 2, 1) := by decide +kernel
theorem dX0_countChangedSettings_32 : decode cX0_countChangedSettings 32 = .ok (.invokevirtual 90, 3) := by decide +kernel
theorem dX0_countChangedSettings_35 : decode cX0_countChangedSettings 35 = .ok (.if_icmp .eq 6, 3) := by decide +kernel
theorem dX0_countChangedSettings_38 : decode cX0_countChangedSettings 38 = .ok (.iinc 1 1, 3) := by decide +kernel
theorem dX0_countChangedSettings_41 : decode cX0_countChangedSettings 41 = .ok (.iinc 2 1, 3) := by decide +kernel
theorem dX0_countChangedSettings_44 : decode cX0_countChangedSettings 44 = .ok (.goto (-40), 3) := by decide +kernel
theorem dX0_countChangedSettings_47 : decode cX0_countChangedSettings 47 = .ok (.iload_n 1, 1) := by decide +kernel
theorem dX0_countChangedSettings_48 : decode cX0_countChangedSettings 48 = .ok (.ireturn, 1) := by decide +kernel
theorem dX0_failBehind_0 : decode cX0_failBehind 0 = .ok (.aload_n 0, 1) := by decide +kernel
theorem dX0_failBehind_1 : decode cX0_failBehind 1 = .ok (.iload_n 1, 1) := by decide +kernel
theorem dX0_failBehind_2 : decode cX0_failBehind 2 = .ok (.putfield 25, 3) := by decide +kernel
theorem dX0_failBehind_5 : decode cX0_failBehind 5 = .ok (.return_, 1) := by decide +kernel
theorem dX0_restart_0 : decode cX0_restart 0 = .ok (.aload_n 0, 1) := by decide +kernel
theorem dX0_restart_1 : decode cX0_restart 1 = .ok (.iconst 1, 1) := by decide +kernel
theorem dX0_restart_2 : decode cX0_restart 2 = .ok (.putfield 21, 3) := by decide +kernel
theorem dX0_restart_5 : decode cX0_restart 5 = .ok (.aload_n 0, 1) := by decide +kernel
theorem dX0_restart_6 : decode cX0_restart 6 = .ok (.bipush (-6), 2) := by decide +kernel
theorem dX0_restart_8 : decode cX0_restart 8 = .ok (.putfield 25, 3) := by decide +kernel
theorem dX0_restart_11 : decode cX0_restart 11 = .ok (.aload_n 0, 1) := by decide +kernel
theorem dX0_restart_12 : decode cX0_restart 12 = .ok (.aload_n 0, 1) := by decide +kernel
theorem dX0_restart_13 : decode cX0_restart 13 = .ok (.invokevirtual 94, 3) := by decide +kernel
theorem dX0_restart_16 : decode cX0_restart 16 = .ok (.putfield 29, 3) := by decide +kernel
theorem dX0_restart_19 : decode cX0_restart 19 = .ok (.aload_n 0, 1) := by decide +kernel
theorem dX0_restart_20 : decode cX0_restart 20 = .ok (.aload_n 0, 1) := by decide +kernel
theorem dX0_restart_21 : decode cX0_restart 21 = .ok (.getfield 29, 3) := by decide +kernel
theorem dX0_restart_24 : decode cX0_restart 24 = .ok (.bipush (-6), 2) := by decide +kernel
theorem dX0_restart_26 : decode cX0_restart 26 = .ok (.if_icmp .ne 8, 3) := by decide +kernel
theorem dX0_restart_29 : decode cX0_restart 29 = .ok (.bipush (-6), 2) := by decide +kernel
theorem dX0_restart_31 : decode cX0_restart 31 = .ok (.goto 14, 3) := by decide +kernel
theorem dX0_restart_34 : decode cX0_restart 34 = .ok (.aload_n 0, 1) := by decide +kernel
theorem dX0_restart_35 : decode cX0_restart 35 = .ok (.aload_n 0, 1) := by decide +kernel
theorem dX0_restart_36 : decode cX0_restart 36 = .ok (.getfield 29, 3) := by decide +kernel
theorem dX0_restart_39 : decode cX0_restart 39 = .ok (.invokevirtual 98, 3) := by decide +kernel
theorem dX0_restart_42 : decode cX0_restart 42 = .ok (.invokevirtual 102, 3) := by decide +kernel
theorem dX0_restart_45 : decode cX0_restart 45 = .ok (.putfield 32, 3) := by decide +kernel
theorem dX0_restart_48 : decode cX0_restart 48 = .ok (.aload_n 0, 1) := by decide +kernel
theorem dX0_restart_49 : decode cX0_restart 49 = .ok (.aload_n 0, 1) := by decide +kernel
theorem dX0_restart_50 : decode cX0_restart 50 = .ok (.getfield 29, 3) := by decide +kernel
theorem dX0_restart_53 : decode cX0_restart 53 = .ok (.bipush (-6), 2) := by decide +kernel
theorem dX0_restart_55 : decode cX0_restart 55 = .ok (.if_icmp .ne 8, 3) := by decide +kernel
theorem dX0_restart_58 : decode cX0_restart 58 = .ok (.bipush (-6), 2) := by decide +kernel
theorem dX0_restart_60 : decode cX0_restart 60 = .ok (.goto 14, 3) := by decide +kernel
theorem dX0_restart_63 : decode cX0_restart 63 = .ok (.aload_n 0, 1) := by decide +kernel
theorem dX0_restart_64 : decode cX0_restart 64 = .ok (.aload_n 0, 1) := by decide +kernel
theorem dX0_restart_65 : decode cX0_restart 65 = .ok (.getfield 29, 3) := by decide +kernel
theorem dX0_restart_68 : decode cX0_restart 68 = .ok (.invokevirtual 98, 3) := by decide +kernel
theorem dX0_restart_71 : decode cX0_restart 71 = .ok (.invokevirtual 104, 3) := by decide +kernel
theorem dX0_restart_74 : decode cX0_restart 74 = .ok (.putfield 35, 3) := by decide +kernel
theorem dX0_restart_77 : decode cX0_restart 77 = .ok (.aload_n 0, 1) := by decide +kernel
theorem dX0_restart_78 : decode cX0_restart 78 = .ok (.invokevirtual 106, 3) := by decide +kernel
theorem dX0_restart_81 : decode cX0_restart 81 = .ok (.aload_n 0, 1) := by decide +kernel
theorem dX0_restart_82 : decode cX0_restart 82 = .ok (.iconst 0, 1) := by decide +kernel
theorem dX0_restart_83 : decode cX0_restart 83 = .ok (.putfield 62, 3) := by decide +kernel
theorem dX0_restart_86 : decode cX0_restart 86 = .ok (.aload_n 0, 1) := by decide +kernel
theorem dX0_restart_87 : decode cX0_restart 87 = .ok (.getfield 29, 3) := by decide +kernel
theorem dX0_restart_90 : decode cX0_restart 90 = .ok (.bipush (-6), 2) := by decide +kernel
theorem dX0_restart_92 : decode cX0_restart 92 = .ok (.if_icmp .ne 12, 3) := by decide +kernel
theorem dX0_restart_95 : decode cX0_restart 95 = .ok (.aload_n 0, 1) := by decide +kernel
theorem dX0_restart_96 : decode cX0_restart 96 = .ok (.bipush 48, 2) := by decide +kernel
theorem dX0_restart_98 : decode cX0_restart 98 = .ok (.putfield 38, 3) := by decide +kernel
theorem dX0_restart_101 : decode cX0_restart 101 = .ok (.goto 15, 3) := by decide +kernel
theorem dX0_restart_104 : decode cX0_restart 104 = .ok (.aload_n 0, 1) := by decide +kernel
theorem dX0_restart_105 : decode cX0_restart 105 = .ok (.aload_n 0, 1) := by decide +kernel
theorem dX0_restart_106 : decode cX0_restart 106 = .ok (.aload_n 0, 1) := by decide +kernel
theorem dX0_restart_107 : decode cX0_restart 107 = .ok (.getfield 29, 3) := by decide +kernel
theorem dX0_restart_110 : decode cX0_restart 110 = .ok (.invokevirtual 98, 3) := by decide +kernel
theorem dX0_restart_113 : decode cX0_restart 113 = .ok (.invokevirtual 109, 3) := by decide +kernel
theorem dX0_restart_116 : decode cX0_restart 116 = .ok (.return_, 1) := by decide +kernel
theorem dX0_findActive_0 : decode cX0_findActive 0 = .ok (.aload_n 0, 1) := by decide +kernel
theorem dX0_findActive_1 : decode cX0_findActive 1 = .ok (.getfield 12, 3) := by decide +kernel
theorem dX0_findActive_4 : decode cX0_findActive 4 = .ok (.aload_n 0, 1) := by decide +kernel
theorem dX0_findActive_5 : decode cX0_findActive 5 = .ok (.getfield 54, 3) := by decide +kernel
theorem dX0_findActive_8 : decode cX0_findActive 8 = .ok (.invokevirtual 112, 3) := by decide +kernel
theorem dX0_findActive_11 : decode cX0_findActive 11 = .ok (.istore_n 1, 1) := by decide +kernel
theorem dX0_findActive_12 : decode cX0_findActive 12 = .ok (.aload_n 0, 1) := by decide +kernel
theorem dX0_findActive_13 : decode cX0_findActive 13 = .ok (.getfield 18, 3) := by decide +kernel
theorem dX0_findActive_16 : decode cX0_findActive 16 = .ok (.aload_n 0, 1) := by decide +kernel
theorem dX0_findActive_17 : decode cX0_findActive 17 = .ok (.getfield 54, 3) := by decide +kernel
theorem dX0_findActive_20 : decode cX0_findActive 20 = .ok (.invokevirtual 112, 3) := by decide +kernel
theorem dX0_findActive_23 : decode cX0_findActive 23 = .ok (.istore_n 2, 1) := by decide +kernel
theorem dX0_findActive_24 : decode cX0_findActive 24 = .ok (.iload_n 1, 1) := by decide +kernel
theorem dX0_findActive_25 : decode cX0_findActive 25 = .ok (.ifCond .eq 46, 3) := by decide +kernel
theorem dX0_findActive_28 : decode cX0_findActive 28 = .ok (.iload_n 2, 1) := by decide +kernel
theorem dX0_findActive_29 : decode cX0_findActive 29 = .ok (.ifCond .eq 42, 3) := by decide +kernel
theorem dX0_findActive_32 : decode cX0_findActive 32 = .ok (.aload_n 0, 1) := by decide +kernel
theorem dX0_findActive_33 : decode cX0_findActive 33 = .ok (.getfield 18, 3) := by decide +kernel
theorem dX0_findActive_36 : decode cX0_findActive 36 = .ok (.invokevirtual 104, 3) := by decide +kernel
theorem dX0_findActive_39 : decode cX0_findActive 39 = .ok (.aload_n 0, 1) := by decide +kernel
theorem dX0_findActive_40 : decode cX0_findActive 40 = .ok (.getfield 12, 3) := by decide +kernel
theorem dX0_findActive_43 : decode cX0_findActive 43 = .ok (.invokevirtual 104, 3) := by decide +kernel
theorem dX0_findActive_46 : decode cX0_findActive 46 = .ok (.isub, 1) := by decide +kernel
theorem dX0_findActive_47 : decode cX0_findActive 47 = .ok (.sipush 200, 3) := by decide +kernel
theorem dX0_findActive_50 : decode cX0_findActive 50 = .ok (.invokestatic 116, 3) := by decide +kernel
theorem dX0_findActive_53 : decode cX0_findActive 53 = .ok (.istore_n 3, 1) := by decide +kernel
theorem dX0_findActive_54 : decode cX0_findActive 54 = .ok (.iload_n 3, 1) := by decide +kernel
theorem dX0_findActive_55 : decode cX0_findActive 55 = .ok (.iconst 1, 1) := by decide +kernel
theorem dX0_findActive_56 : decode cX0_findActive 56 = .ok (.if_icmp .lt 13, 3) := by decide +kernel
theorem dX0_findActive_59 : decode cX0_findActive 59 = .ok (.iload_n 3, 1) := by decide +kernel
theorem dX0_findActive_60 : decode cX0_findActive 60 = .ok (.bipush 100, 2) := by decide +kernel
theorem dX0_findActive_62 : decode cX0_findActive 62 = .ok (.if_icmp .gt 7, 3) := by decide +kernel
theorem dX0_findActive_65 : decode cX0_findActive 65 = .ok (.iconst 1, 1) := by decide +kernel
theorem dX0_findActive_66 : decode cX0_findActive 66 = .ok (.goto 4, 3) := by decide +kernel
theorem dX0_findActive_69 : decode cX0_findActive 69 = .ok (.iconst 0, 1) := by decide +kernel
theorem dX0_findActive_70 : decode cX0_findActive 70 = .ok (.ireturn, 1) := by decide +kernel
theorem dX0_findActive_71 : decode cX0_findActive 71 = .ok (.iload_n 2, 1) := by decide +kernel
theorem dX0_findActive_72 : decode cX0_findActive 72 = .ok (.ifCond .eq 5, 3) := by decide +kernel
theorem dX0_findActive_75 : decode cX0_findActive 75 = .ok (.iconst 1, 1) := by decide +kernel
theorem dX0_findActive_76 : decode cX0_findActive 76 = .ok (.ireturn, 1) := by decide +kernel
theorem dX0_findActive_77 : decode cX0_findActive 77 = .ok (.iload_n 1, 1) := by decide +kernel
theorem dX0_findActive_78 : decode cX0_findActive 78 = .ok (.ifCond .eq 7, 3) := by decide +kernel
theorem dX0_findActive_81 : decode cX0_findActive 81 = .ok (.iconst 0, 1) := by decide +kernel
theorem dX0_findActive_82 : decode cX0_findActive 82 = .ok (.goto 5, 3) := by decide +kernel
theorem dX0_findActive_85 : decode cX0_findActive 85 = .ok (.bipush (-6), 2) := by decide +kernel
theorem dX0_findActive_87 : decode cX0_findActive 87 = .ok (.ireturn, 1) := by decide +kernel
theorem dX0_takeDefaults_0 : decode cX0_takeDefaults 0 = .ok (.iconst 0, 1) := by decide +kernel
theorem dX0_takeDefaults_1 : decode cX0_takeDefaults 1 = .ok (.istore_n 1, 1) := by decide +kernel
theorem dX0_takeDefaults_2 : decode cX0_takeDefaults 2 = .ok (.iload_n 1, 1) := by decide +kernel
theorem dX0_takeDefaults_3 : decode cX0_takeDefaults 3 = .ok (.bipush 10, 2) := by decide +kernel
theorem dX0_takeDefaults_5 : decode cX0_takeDefaults 5 = .ok (.if_icmp .ge 31, 3) := by decide +kernel
theorem dX0_takeDefaults_8 : decode cX0_takeDefaults 8 = .ok (.aload_n 0, 1) := by decide +kernel
theorem dX0_takeDefaults_9 : decode cX0_takeDefaults 9 = .ok (.getfield 41, 3) := by decide +kernel
theorem dX0_takeDefaults_12 : decode cX0_takeDefaults 12 = .ok (.iload_n 1, 1) := by decide +kernel
theorem dX0_takeDefaults_13 : decode cX0_takeDefaults 13 = .ok (.aload_n 0, 1) := by decide +kernel
theorem dX0_takeDefaults_14 : decode cX0_takeDefaults 14 = .ok (.invokevirtual 81, 3) := by decide +kernel
theorem dX0_takeDefaults_17 : decode cX0_takeDefaults 17 = .ok (.iload_n 1, 1) := by decide +kernel
theorem dX0_takeDefaults_18 : decode cX0_takeDefaults 18 = .ok (.invokevirtual 90, 3) := by decide +kernel
theorem dX0_takeDefaults_21 : decode cX0_takeDefaults 21 = .ok (.iastore, 1) := by decide +kernel
theorem dX0_takeDefaults_22 : decode cX0_takeDefaults 22 = .ok (.aload_n 0, 1) := by decide +kernel
theorem dX0_takeDefaults_23 : decode cX0_takeDefaults 23 = .ok (.getfield 45, 3) := by decide +kernel
theorem dX0_takeDefaults_26 : decode cX0_takeDefaults 26 = .ok (.iload_n 1, 1) := by decide +kernel
theorem dX0_takeDefaults_27 : decode cX0_takeDefaults 27 = .ok (.bipush (-6), 2) := by decide +kernel
theorem dX0_takeDefaults_29 : decode cX0_takeDefaults 29 = .ok (.iastore, 1) := by decide +kernel
theorem dX0_takeDefaults_30 : decode cX0_takeDefaults 30 = .ok (.iinc 1 1, 3) := by decide +kernel
theorem dX0_takeDefaults_33 : decode cX0_takeDefaults 33 = .ok (.goto (-31), 3) := by decide +kernel
theorem dX0_takeDefaults_36 : decode cX0_takeDefaults 36 = .ok (.return_, 1) := by decide +kernel
theorem dX0_readRecords_0 : decode cX0_readRecords 0 = .ok (.iconst 3, 1) := by decide +kernel
theorem dX0_readRecords_1 : decode cX0_readRecords 1 = .ok (.istore_n 2, 1) := by decide +kernel
theorem dX0_readRecords_2 : decode cX0_readRecords 2 = .ok (.iload_n 2, 1) := by decide +kernel
theorem dX0_readRecords_3 : decode cX0_readRecords 3 = .ok (.bipush 48, 2) := by decide +kernel
theorem dX0_readRecords_5 : decode cX0_readRecords 5 = .ok (.if_icmp .ge 79, 3) := by decide +kernel
theorem dX0_readRecords_8 : decode cX0_readRecords 8 = .ok (.aload_n 1, 1) := by decide +kernel
theorem dX0_readRecords_9 : decode cX0_readRecords 9 = .ok (.iload_n 2, 1) := by decide +kernel
theorem dX0_readRecords_10 : decode cX0_readRecords 10 = .ok (.invokevirtual 122, 3) := by decide +kernel
theorem dX0_readRecords_13 : decode cX0_readRecords 13 = .ok (.ifCond .eq 71, 3) := by decide +kernel
theorem dX0_readRecords_16 : decode cX0_readRecords 16 = .ok (.aload_n 1, 1) := by decide +kernel
theorem dX0_readRecords_17 : decode cX0_readRecords 17 = .ok (.iload_n 2, 1) := by decide +kernel
theorem dX0_readRecords_18 : decode cX0_readRecords 18 = .ok (.invokevirtual 125, 3) := by decide +kernel
theorem dX0_readRecords_21 : decode cX0_readRecords 21 = .ok (.istore_n 3, 1) := by decide +kernel
theorem dX0_readRecords_22 : decode cX0_readRecords 22 = .ok (.iload_n 3, 1) := by decide +kernel
theorem dX0_readRecords_23 : decode cX0_readRecords 23 = .ok (.invokestatic 77, 3) := by decide +kernel
theorem dX0_readRecords_26 : decode cX0_readRecords 26 = .ok (.ifCond .eq 42, 3) := by decide +kernel
theorem dX0_readRecords_29 : decode cX0_readRecords 29 = .ok (.aload_n 1, 1) := by decide +kernel
theorem dX0_readRecords_30 : decode cX0_readRecords 30 = .ok (.iload_n 2, 1) := by decide +kernel
theorem dX0_readRecords_31 : decode cX0_readRecords 31 = .ok (.aload_n 0, 1) := by decide +kernel
theorem dX0_readRecords_32 : decode cX0_readRecords 32 = .ok (.invokevirtual 81, 3) := by decide +kernel
theorem dX0_readRecords_35 : decode cX0_readRecords 35 = .ok (.aload_n 0, 1) := by decide +kernel
theorem dX0_readRecords_36 : decode cX0_readRecords 36 = .ok (.getfield 32, 3) := by decide +kernel
theorem dX0_readRecords_39 : decode cX0_readRecords 39 = .ok (.invokevirtual 128, 3) := by decide +kernel
theorem dX0_readRecords_42 : decode cX0_readRecords 42 = .ok (.ifCond .eq 26, 3) := by decide +kernel
theorem dX0_readRecords_45 : decode cX0_readRecords 45 = .ok (.aload_n 0, 1) := by decide +kernel
theorem dX0_readRecords_46 : decode cX0_readRecords 46 = .ok (.getfield 41, 3) := by decide +kernel
theorem dX0_readRecords_49 : decode cX0_readRecords 49 = .ok (.iload_n 3, 1) := by decide +kernel
theorem dX0_readRecords_50 : decode cX0_readRecords 50 = .ok (.aload_n 1, 1) := by decide +kernel
theorem dX0_readRecords_51 : decode cX0_readRecords 51 = .ok (.iload_n 2, 1) := by decide +kernel
theorem dX0_readRecords_52 : decode cX0_readRecords 52 = .ok (.iconst 1, 1) := by decide +kernel
theorem dX0_readRecords_53 : decode cX0_readRecords 53 = .ok (.iadd, 1) := by decide +kernel
theorem dX0_readRecords_54 : decode cX0_readRecords 54 = .ok (.invokevirtual 132, 3) := by decide +kernel
theorem dX0_readRecords_57 : decode cX0_readRecords 57 = .ok (.iastore, 1) := by decide +kernel
theorem dX0_readRecords_58 : decode cX0_readRecords 58 = .ok (.aload_n 0, 1) := by decide +kernel
theorem dX0_readRecords_59 : decode cX0_readRecords 59 = .ok (.getfield 45, 3) := by decide +kernel
theorem dX0_readRecords_62 : decode cX0_readRecords 62 = .ok (.iload_n 3, 1) := by decide +kernel
theorem dX0_readRecords_63 : decode cX0_readRecords 63 = .ok (.iload_n 2, 1) := by decide +kernel
theorem dX0_readRecords_64 : decode cX0_readRecords 64 = .ok (.iastore, 1) := by decide +kernel
theorem dX0_readRecords_65 : decode cX0_readRecords 65 = .ok (.goto 13, 3) := by decide +kernel
theorem dX0_readRecords_68 : decode cX0_readRecords 68 = .ok (.aload_n 0, 1) := by decide +kernel
theorem dX0_readRecords_69 : decode cX0_readRecords 69 = .ok (.dup, 1) := by decide +kernel
theorem dX0_readRecords_70 : decode cX0_readRecords 70 = .ok (.getfield 62, 3) := by decide +kernel
theorem dX0_readRecords_73 : decode cX0_readRecords 73 = .ok (.iconst 1, 1) := by decide +kernel
theorem dX0_readRecords_74 : decode cX0_readRecords 74 = .ok (.iadd, 1) := by decide +kernel
theorem dX0_readRecords_75 : decode cX0_readRecords 75 = .ok (.putfield 62, 3) := by decide +kernel
theorem dX0_readRecords_78 : decode cX0_readRecords 78 = .ok (.iinc 2 3, 3) := by decide +kernel
theorem dX0_readRecords_81 : decode cX0_readRecords 81 = .ok (.goto (-79), 3) := by decide +kernel
theorem dX0_readRecords_84 : decode cX0_readRecords 84 = .ok (.aload_n 0, 1) := by decide +kernel
theorem dX0_readRecords_85 : decode cX0_readRecords 85 = .ok (.iload_n 2, 1) := by decide +kernel
theorem dX0_readRecords_86 : decode cX0_readRecords 86 = .ok (.putfield 38, 3) := by decide +kernel
theorem dX0_readRecords_89 : decode cX0_readRecords 89 = .ok (.return_, 1) := by decide +kernel
theorem dX0_change_0 : decode cX0_change 0 = .ok (.iload_n 1, 1) := by decide +kernel
theorem dX0_change_1 : decode cX0_change 1 = .ok (.invokestatic 77, 3) := by decide +kernel
theorem dX0_change_4 : decode cX0_change 4 = .ok (.ifCond .eq 13, 3) := by decide +kernel
theorem dX0_change_7 : decode cX0_change 7 = .ok (.aload_n 0, 1) := by decide +kernel
theorem dX0_change_8 : decode cX0_change 8 = .ok (.getfield 41, 3) := by decide +kernel
theorem dX0_change_11 : decode cX0_change 11 = .ok (.iload_n 1, 1) := by decide +kernel
theorem dX0_change_12 : decode cX0_change 12 = .ok (.iaload, 1) := by decide +kernel
theorem dX0_change_13 : decode cX0_change 13 = .ok (.iload_n 2, 1) := by decide +kernel
theorem dX0_change_14 : decode cX0_change 14 = .ok (.if_icmp .ne 5, 3) := by decide +kernel
theorem dX0_change_17 : decode cX0_change 17 = .ok (.iconst 0, 1) := by decide +kernel
theorem dX0_change_18 : decode cX0_change 18 = .ok (.ireturn, 1) := by decide +kernel
theorem dX0_change_19 : decode cX0_change 19 = .ok (.aload_n 0, 1) := by decide +kernel
theorem dX0_change_20 : decode cX0_change 20 = .ok (.getfield 38, 3) := by decide +kernel
theorem dX0_change_23 : decode cX0_change 23 = .ok (.iconst 3, 1) := by decide +kernel
theorem dX0_change_24 : decode cX0_change 24 = .ok (.iadd, 1) := by decide +kernel
theorem dX0_change_25 : decode cX0_change 25 = .ok (.bipush 48, 2) := by decide +kernel
theorem dX0_change_27 : decode cX0_change 27 = .ok (.if_icmp .le 34, 3) := by decide +kernel
theorem dX0_change_30 : decode cX0_change 30 = .ok (.aload_n 0, 1) := by decide +kernel
theorem dX0_change_31 : decode cX0_change 31 = .ok (.getfield 41, 3) := by decide +kernel
theorem dX0_change_34 : decode cX0_change 34 = .ok (.iconst 0, 1) := by decide +kernel
theorem dX0_change_35 : decode cX0_change 35 = .ok (.aload_n 0, 1) := by decide +kernel
theorem dX0_change_36 : decode cX0_change 36 = .ok (.getfield 48, 3) := by decide +kernel
theorem dX0_change_39 : decode cX0_change 39 = .ok (.iconst 0, 1) := by decide +kernel
theorem dX0_change_40 : decode cX0_change 40 = .ok (.bipush 10, 2) := by decide +kernel
theorem dX0_change_42 : decode cX0_change 42 = .ok (.invokestatic 65, 3) := by decide +kernel
theorem dX0_change_45 : decode cX0_change 45 = .ok (.aload_n 0, 1) := by decide +kernel
theorem dX0_change_46 : decode cX0_change 46 = .ok (.getfield 48, 3) := by decide +kernel
theorem dX0_change_49 : decode cX0_change 49 = .ok (.iload_n 1, 1) := by decide +kernel
theorem dX0_change_50 : decode cX0_change 50 = .ok (.iload_n 2, 1) := by decide +kernel
theorem dX0_change_51 : decode cX0_change 51 = .ok (.iastore, 1) := by decide +kernel
theorem dX0_change_52 : decode cX0_change 52 = .ok (.aload_n 0, 1) := by decide +kernel
theorem dX0_change_53 : decode cX0_change 53 = .ok (.aload_n 0, 1) := by decide +kernel
theorem dX0_change_54 : decode cX0_change 54 = .ok (.getfield 32, 3) := by decide +kernel
theorem dX0_change_57 : decode cX0_change 57 = .ok (.invokevirtual 135, 3) := by decide +kernel
theorem dX0_change_60 : decode cX0_change 60 = .ok (.ireturn, 1) := by decide +kernel
theorem dX0_change_61 : decode cX0_change 61 = .ok (.aload_n 0, 1) := by decide +kernel
theorem dX0_change_62 : decode cX0_change 62 = .ok (.aload_n 0, 1) := by decide +kernel
theorem dX0_change_63 : decode cX0_change 63 = .ok (.aload_n 0, 1) := by decide +kernel
theorem dX0_change_64 : decode cX0_change 64 = .ok (.getfield 29, 3) := by decide +kernel
theorem dX0_change_67 : decode cX0_change 67 = .ok (.invokevirtual 98, 3) := by decide +kernel
theorem dX0_change_70 : decode cX0_change 70 = .ok (.aload_n 0, 1) := by decide +kernel
theorem dX0_change_71 : decode cX0_change 71 = .ok (.getfield 38, 3) := by decide +kernel
theorem dX0_change_74 : decode cX0_change 74 = .ok (.iload_n 1, 1) := by decide +kernel
theorem dX0_change_75 : decode cX0_change 75 = .ok (.iload_n 2, 1) := by decide +kernel
theorem dX0_change_76 : decode cX0_change 76 = .ok (.aload_n 0, 1) := by decide +kernel
theorem dX0_change_77 : decode cX0_change 77 = .ok (.getfield 32, 3) := by decide +kernel
theorem dX0_change_80 : decode cX0_change 80 = .ok (.invokevirtual 138, 3) := by decide +kernel
theorem dX0_change_83 : decode cX0_change 83 = .ok (.istore_n 3, 1) := by decide +kernel
theorem dX0_change_84 : decode cX0_change 84 = .ok (.aload_n 0, 1) := by decide +kernel
theorem dX0_change_85 : decode cX0_change 85 = .ok (.getfield 21, 3) := by decide +kernel
theorem dX0_change_88 : decode cX0_change 88 = .ok (.ifCond .eq 30, 3) := by decide +kernel
theorem dX0_change_91 : decode cX0_change 91 = .ok (.aload_n 0, 1) := by decide +kernel
theorem dX0_change_92 : decode cX0_change 92 = .ok (.getfield 41, 3) := by decide +kernel
theorem dX0_change_95 : decode cX0_change 95 = .ok (.iload_n 1, 1) := by decide +kernel
theorem dX0_change_96 : decode cX0_change 96 = .ok (.iload_n 2, 1) := by decide +kernel
theorem dX0_change_97 : decode cX0_change 97 = .ok (.iastore, 1) := by decide +kernel
theorem dX0_change_98 : decode cX0_change 98 = .ok (.aload_n 0, 1) := by decide +kernel
theorem dX0_change_99 : decode cX0_change 99 = .ok (.getfield 45, 3) := by decide +kernel
theorem dX0_change_102 : decode cX0_change 102 = .ok (.iload_n 1, 1) := by decide +kernel
theorem dX0_change_103 : decode cX0_change 103 = .ok (.aload_n 0, 1) := by decide +kernel
theorem dX0_change_104 : decode cX0_change 104 = .ok (.getfield 38, 3) := by decide +kernel
theorem dX0_change_107 : decode cX0_change 107 = .ok (.iastore, 1) := by decide +kernel
theorem dX0_change_108 : decode cX0_change 108 = .ok (.aload_n 0, 1) := by decide +kernel
theorem dX0_change_109 : decode cX0_change 109 = .ok (.dup, 1) := by decide +kernel
theorem dX0_change_110 : decode cX0_change 110 = .ok (.getfield 38, 3) := by decide +kernel
theorem dX0_change_113 : decode cX0_change 113 = .ok (.iconst 3, 1) := by decide +kernel
theorem dX0_change_114 : decode cX0_change 114 = .ok (.iadd, 1) := by decide +kernel
theorem dX0_change_115 : decode cX0_change 115 = .ok (.putfield 38, 3) := by decide +kernel
theorem dX0_change_118 : decode cX0_change 118 = .ok (.iload_n 3, 1) := by decide +kernel
theorem dX0_change_119 : decode cX0_change 119 = .ok (.ireturn, 1) := by decide +kernel
theorem dX0_moveTo_0 : decode cX0_moveTo 0 = .ok (.aload_n 0, 1) := by decide +kernel
theorem dX0_moveTo_1 : decode cX0_moveTo 1 = .ok (.iload_n 1, 1) := by decide +kernel
theorem dX0_moveTo_2 : decode cX0_moveTo 2 = .ok (.invokevirtual 142, 3) := by decide +kernel
theorem dX0_moveTo_5 : decode cX0_moveTo 5 = .ok (.aload_n 0, 1) := by decide +kernel
theorem dX0_moveTo_6 : decode cX0_moveTo 6 = .ok (.iload_n 1, 1) := by decide +kernel
theorem dX0_moveTo_7 : decode cX0_moveTo 7 = .ok (.invokevirtual 135, 3) := by decide +kernel
theorem dX0_moveTo_10 : decode cX0_moveTo 10 = .ok (.ireturn, 1) := by decide +kernel
theorem dX0_migratedValueOf_0 : decode cX0_migratedValueOf 0 = .ok (.aload_n 0, 1) := by decide +kernel
theorem dX0_migratedValueOf_1 : decode cX0_migratedValueOf 1 = .ok (.iload_n 1, 1) := by decide +kernel
theorem dX0_migratedValueOf_2 : decode cX0_migratedValueOf 2 = .ok (.invokevirtual 142, 3) := by decide +kernel
theorem dX0_migratedValueOf_5 : decode cX0_migratedValueOf 5 = .ok (.iload_n 2, 1) := by decide +kernel
theorem dX0_migratedValueOf_6 : decode cX0_migratedValueOf 6 = .ok (.invokestatic 77, 3) := by decide +kernel
theorem dX0_migratedValueOf_9 : decode cX0_migratedValueOf 9 = .ok (.ifCond .eq 12, 3) := by decide +kernel
theorem dX0_migratedValueOf_12 : decode cX0_migratedValueOf 12 = .ok (.aload_n 0, 1) := by decide +kernel
theorem dX0_migratedValueOf_13 : decode cX0_migratedValueOf 13 = .ok (.getfield 48, 3) := by decide +kernel
theorem dX0_migratedValueOf_16 : decode cX0_migratedValueOf 16 = .ok (.iload_n 2, 1) := by decide +kernel
theorem dX0_migratedValueOf_17 : decode cX0_migratedValueOf 17 = .ok (.iaload, 1) := by decide +kernel
theorem dX0_migratedValueOf_18 : decode cX0_migratedValueOf 18 = .ok (.goto 5, 3) := by decide +kernel
theorem dX0_migratedValueOf_21 : decode cX0_migratedValueOf 21 = .ok (.bipush (-6), 2) := by decide +kernel
theorem dX0_migratedValueOf_23 : decode cX0_migratedValueOf 23 = .ok (.ireturn, 1) := by decide +kernel
theorem dX0_migrateValues_0 : decode cX0_migrateValues 0 = .ok (.aload_n 0, 1) := by decide +kernel
theorem dX0_migrateValues_1 : decode cX0_migrateValues 1 = .ok (.getfield 41, 3) := by decide +kernel
theorem dX0_migrateValues_4 : decode cX0_migrateValues 4 = .ok (.iconst 0, 1) := by decide +kernel
theorem dX0_migrateValues_5 : decode cX0_migrateValues 5 = .ok (.aload_n 0, 1) := by decide +kernel
theorem dX0_migrateValues_6 : decode cX0_migrateValues 6 = .ok (.getfield 48, 3) := by decide +kernel
theorem dX0_migrateValues_9 : decode cX0_migrateValues 9 = .ok (.iconst 0, 1) := by decide +kernel
theorem dX0_migrateValues_10 : decode cX0_migrateValues 10 = .ok (.bipush 10, 2) := by decide +kernel
theorem dX0_migrateValues_12 : decode cX0_migrateValues 12 = .ok (.invokestatic 65, 3) := by decide +kernel
theorem dX0_migrateValues_15 : decode cX0_migrateValues 15 = .ok (.aload_n 0, 1) := by decide +kernel
theorem dX0_migrateValues_16 : decode cX0_migrateValues 16 = .ok (.getfield 54, 3) := by decide +kernel
theorem dX0_migrateValues_19 : decode cX0_migrateValues 19 = .ok (.aload_n 0, 1) := by decide +kernel
theorem dX0_migrateValues_20 : decode cX0_migrateValues 20 = .ok (.getfield 48, 3) := by decide +kernel
theorem dX0_migrateValues_23 : decode cX0_migrateValues 23 = .ok (.aload_n 0, 1) := by decide +kernel
theorem dX0_migrateValues_24 : decode cX0_migrateValues 24 = .ok (.getfield 32, 3) := by decide +kernel
theorem dX0_migrateValues_27 : decode cX0_migrateValues 27 = .ok (.iload_n 1, 1) := by decide +kernel
theorem dX0_migrateValues_28 : decode cX0_migrateValues 28 = .ok (.invokevirtual 146, 3) := by decide +kernel
theorem dX0_migrateValues_31 : decode cX0_migrateValues 31 = .ok (.return_, 1) := by decide +kernel
theorem dX0_reset_0 : decode cX0_reset 0 = .ok (.aload_n 0, 1) := by decide +kernel
theorem dX0_reset_1 : decode cX0_reset 1 = .ok (.getfield 12, 3) := by decide +kernel
theorem dX0_reset_4 : decode cX0_reset 4 = .ok (.invokevirtual 150, 3) := by decide +kernel
theorem dX0_reset_7 : decode cX0_reset 7 = .ok (.aload_n 0, 1) := by decide +kernel
theorem dX0_reset_8 : decode cX0_reset 8 = .ok (.getfield 18, 3) := by decide +kernel
theorem dX0_reset_11 : decode cX0_reset 11 = .ok (.invokevirtual 150, 3) := by decide +kernel
theorem dX0_reset_14 : decode cX0_reset 14 = .ok (.aload_n 0, 1) := by decide +kernel
theorem dX0_reset_15 : decode cX0_reset 15 = .ok (.aload_n 0, 1) := by decide +kernel
theorem dX0_reset_16 : decode cX0_reset 16 = .ok (.getfield 12, 3) := by decide +kernel
theorem dX0_reset_19 : decode cX0_reset 19 = .ok (.iload_n 1, 1) := by decide +kernel
theorem dX0_reset_20 : decode cX0_reset 20 = .ok (.iconst 0, 1) := by decide +kernel
theorem dX0_reset_21 : decode cX0_reset 21 = .ok (.invokevirtual 153, 3) := by decide +kernel
theorem dX0_reset_24 : decode cX0_reset 24 = .ok (.istore_n 2, 1) := by decide +kernel
theorem dX0_reset_25 : decode cX0_reset 25 = .ok (.aload_n 0, 1) := by decide +kernel
theorem dX0_reset_26 : decode cX0_reset 26 = .ok (.getfield 21, 3) := by decide +kernel
theorem dX0_reset_29 : decode cX0_reset 29 = .ok (.ifCond .eq 27, 3) := by decide +kernel
theorem dX0_reset_32 : decode cX0_reset 32 = .ok (.aload_n 0, 1) := by decide +kernel
theorem dX0_reset_33 : decode cX0_reset 33 = .ok (.iconst 0, 1) := by decide +kernel
theorem dX0_reset_34 : decode cX0_reset 34 = .ok (.putfield 29, 3) := by decide +kernel
theorem dX0_reset_37 : decode cX0_reset 37 = .ok (.aload_n 0, 1) := by decide +kernel
theorem dX0_reset_38 : decode cX0_reset 38 = .ok (.iload_n 1, 1) := by decide +kernel
theorem dX0_reset_39 : decode cX0_reset 39 = .ok (.putfield 32, 3) := by decide +kernel
theorem dX0_reset_42 : decode cX0_reset 42 = .ok (.aload_n 0, 1) := by decide +kernel
theorem dX0_reset_43 : decode cX0_reset 43 = .ok (.iconst 0, 1) := by decide +kernel
theorem dX0_reset_44 : decode cX0_reset 44 = .ok (.putfield 35, 3) := by decide +kernel
theorem dX0_reset_47 : decode cX0_reset 47 = .ok (.aload_n 0, 1) := by decide +kernel
theorem dX0_reset_48 : decode cX0_reset 48 = .ok (.iconst 3, 1) := by decide +kernel
theorem dX0_reset_49 : decode cX0_reset 49 = .ok (.putfield 38, 3) := by decide +kernel
theorem dX0_reset_52 : decode cX0_reset 52 = .ok (.aload_n 0, 1) := by decide +kernel
theorem dX0_reset_53 : decode cX0_reset 53 = .ok (.invokevirtual 106, 3) := by decide +kernel
theorem dX0_reset_56 : decode cX0_reset 56 = .ok (.iload_n 2, 1) := by decide +kernel
theorem dX0_reset_57 : decode cX0_reset 57 = .ok (.ireturn, 1) := by decide +kernel
theorem dX0_fillOther_0 : decode cX0_fillOther 0 = .ok (.aload_n 0, 1) := by decide +kernel
theorem dX0_fillOther_1 : decode cX0_fillOther 1 = .ok (.getfield 29, 3) := by decide +kernel
theorem dX0_fillOther_4 : decode cX0_fillOther 4 = .ok (.ifCond .ne 7, 3) := by decide +kernel
theorem dX0_fillOther_7 : decode cX0_fillOther 7 = .ok (.iconst 1, 1) := by decide +kernel
theorem dX0_fillOther_8 : decode cX0_fillOther 8 = .ok (.goto 4, 3) := by decide +kernel
theorem dX0_fillOther_11 : decode cX0_fillOther 11 = .ok (.iconst 0, 1) := by decide +kernel
theorem dX0_fillOther_12 : decode cX0_fillOther 12 = .ok (.istore_n 2, 1) := by decide +kernel
theorem dX0_fillOther_13 : decode cX0_fillOther 13 = .ok (.aload_n 0, 1) := by decide +kernel
theorem dX0_fillOther_14 : decode cX0_fillOther 14 = .ok (.getfield 35, 3) := by decide +kernel
theorem dX0_fillOther_17 : decode cX0_fillOther 17 = .ok (.iconst 1, 1) := by decide +kernel
theorem dX0_fillOther_18 : decode cX0_fillOther 18 = .ok (.iadd, 1) := by decide +kernel
theorem dX0_fillOther_19 : decode cX0_fillOther 19 = .ok (.sipush 200, 3) := by decide +kernel
theorem dX0_fillOther_22 : decode cX0_fillOther 22 = .ok (.irem, 1) := by decide +kernel
theorem dX0_fillOther_23 : decode cX0_fillOther 23 = .ok (.istore_n 3, 1) := by decide +kernel
theorem dX0_fillOther_24 : decode cX0_fillOther 24 = .ok (.aload_n 0, 1) := by decide +kernel
theorem dX0_fillOther_25 : decode cX0_fillOther 25 = .ok (.getfield 54, 3) := by decide +kernel
theorem dX0_fillOther_28 : decode cX0_fillOther 28 = .ok (.iload_n 1, 1) := by decide +kernel
theorem dX0_fillOther_29 : decode cX0_fillOther 29 = .ok (.invokevirtual 71, 3) := by decide +kernel
theorem dX0_fillOther_32 : decode cX0_fillOther 32 = .ok (.astore 4, 2) := by decide +kernel
theorem dX0_fillOther_34 : decode cX0_fillOther 34 = .ok (.aload_n 0, 1) := by decide +kernel
theorem dX0_fillOther_35 : decode cX0_fillOther 35 = .ok (.iload_n 2, 1) := by decide +kernel
theorem dX0_fillOther_36 : decode cX0_fillOther 36 = .ok (.invokevirtual 98, 3) := by decide +kernel
theorem dX0_fillOther_39 : decode cX0_fillOther 39 = .ok (.astore 5, 2) := by decide +kernel
theorem dX0_fillOther_41 : decode cX0_fillOther 41 = .ok (.aload 5, 2) := by decide +kernel
theorem dX0_fillOther_43 : decode cX0_fillOther 43 = .ok (.invokevirtual 150, 3) := by decide +kernel
theorem dX0_fillOther_46 : decode cX0_fillOther 46 = .ok (.iconst 0, 1) := by decide +kernel
theorem dX0_fillOther_47 : decode cX0_fillOther 47 = .ok (.istore 6, 2) := by decide +kernel
theorem dX0_fillOther_49 : decode cX0_fillOther 49 = .ok (.iconst 3, 1) := by decide +kernel
theorem dX0_fillOther_50 : decode cX0_fillOther 50 = .ok (.istore 7, 2) := by decide +kernel
theorem dX0_fillOther_52 : decode cX0_fillOther 52 = .ok (.iconst 0, 1) := by decide +kernel
theorem dX0_fillOther_53 : decode cX0_fillOther 53 = .ok (.istore 8, 2) := by decide +kernel
theorem dX0_fillOther_55 : decode cX0_fillOther 55 = .ok (.iload 8, 2) := by decide +kernel
theorem dX0_fillOther_57 : decode cX0_fillOther 57 = .ok (.bipush 10, 2) := by decide +kernel
theorem dX0_fillOther_59 : decode cX0_fillOther 59 = .ok (.if_icmp .ge 80, 3) := by decide +kernel
theorem dX0_fillOther_62 : decode cX0_fillOther 62 = .ok (.aload_n 0, 1) := by decide +kernel
theorem dX0_fillOther_63 : decode cX0_fillOther 63 = .ok (.getfield 51, 3) := by decide +kernel
theorem dX0_fillOther_66 : decode cX0_fillOther 66 = .ok (.iload 8, 2) := by decide +kernel
theorem dX0_fillOther_68 : decode cX0_fillOther 68 = .ok (.bipush (-6), 2) := by decide +kernel
theorem dX0_fillOther_70 : decode cX0_fillOther 70 = .ok (.iastore, 1) := by decide +kernel
theorem dX0_fillOther_71 : decode cX0_fillOther 71 = .ok (.aload 4, 2) := by decide +kernel
theorem dX0_fillOther_73 : decode cX0_fillOther 73 = .ok (.iload 8, 2) := by decide +kernel
theorem dX0_fillOther_75 : decode cX0_fillOther 75 = .ok (.invokevirtual 85, 3) := by decide +kernel
theorem dX0_fillOther_78 : decode cX0_fillOther 78 = .ok (.ifCond .eq 55, 3) := by decide +kernel
theorem dX0_fillOther_81 : decode cX0_fillOther 81 = .ok (.aload_n 0, 1) := by decide +kernel
theorem dX0_fillOther_82 : decode cX0_fillOther 82 = .ok (.getfield 48, 3) := by decide +kernel
theorem dX0_fillOther_85 : decode cX0_fillOther 85 = .ok (.iload 8, 2) := by decide +kernel
theorem dX0_fillOther_87 : decode cX0_fillOther 87 = .ok (.iaload, 1) := by decide +kernel
theorem dX0_fillOther_88 : decode cX0_fillOther 88 = .ok (.aload 4, 2) := by decide +kernel
theorem dX0_fillOther_90 : decode cX0_fillOther 90 = .ok (.iload 8, 2) := by decide +kernel
theorem dX0_fillOther_92 : decode cX0_fillOther 92 = .ok (.invokevirtual 90, 3) := by decide +kernel
theorem dX0_fillOther_95 : decode cX0_fillOther 95 = .ok (.if_icmp .eq 38, 3) := by decide +kernel
theorem dX0_fillOther_98 : decode cX0_fillOther 98 = .ok (.aload_n 0, 1) := by decide +kernel
theorem dX0_fillOther_99 : decode cX0_fillOther 99 = .ok (.getfield 51, 3) := by decide +kernel
theorem dX0_fillOther_102 : decode cX0_fillOther 102 = .ok (.iload 8, 2) := by decide +kernel
theorem dX0_fillOther_104 : decode cX0_fillOther 104 = .ok (.iload 7, 2) := by decide +kernel
theorem dX0_fillOther_106 : decode cX0_fillOther 106 = .ok (.iastore, 1) := by decide +kernel
theorem dX0_fillOther_107 : decode cX0_fillOther 107 = .ok (.iload 6, 2) := by decide +kernel
theorem dX0_fillOther_109 : decode cX0_fillOther 109 = .ok (.aload_n 0, 1) := by decide +kernel
theorem dX0_fillOther_110 : decode cX0_fillOther 110 = .ok (.aload 5, 2) := by decide +kernel
theorem dX0_fillOther_112 : decode cX0_fillOther 112 = .ok (.iload 7, 2) := by decide +kernel
theorem dX0_fillOther_114 : decode cX0_fillOther 114 = .ok (.iload 8, 2) := by decide +kernel
theorem dX0_fillOther_116 : decode cX0_fillOther 116 = .ok (.aload_n 0, 1) := by decide +kernel
theorem dX0_fillOther_117 : decode cX0_fillOther 117 = .ok (.getfield 48, 3) := by decide +kernel
theorem dX0_fillOther_120 : decode cX0_fillOther 120 = .ok (.iload 8, 2) := by decide +kernel
theorem dX0_fillOther_122 : decode cX0_fillOther 122 = .ok (.iaload, 1) := by decide +kernel
theorem dX0_fillOther_123 : decode cX0_fillOther 123 = .ok (.iload_n 1, 1) := by decide +kernel
theorem dX0_fillOther_124 : decode cX0_fillOther 124 = .ok (.invokevirtual 138, 3) := by decide +kernel
theorem dX0_fillOther_127 : decode cX0_fillOther 127 = .ok (.iadd, 1) := by decide +kernel
theorem dX0_fillOther_128 : decode cX0_fillOther 128 = .ok (.istore 6, 2) := by decide +kernel
theorem dX0_fillOther_130 : decode cX0_fillOther 130 = .ok (.iinc 7 3, 3) := by decide +kernel
theorem dX0_fillOther_133 : decode cX0_fillOther 133 = .ok (.iinc 8 1, 3) := by decide +kernel
theorem dX0_fillOther_136 : decode cX0_fillOther 136 = .ok (.goto (-81), 3) := by decide +kernel
theorem dX0_fillOther_139 : decode cX0_fillOther 139 = .ok (.iload 6, 2) := by decide +kernel
theorem dX0_fillOther_141 : decode cX0_fillOther 141 = .ok (.aload_n 0, 1) := by decide +kernel
theorem dX0_fillOther_142 : decode cX0_fillOther 142 = .ok (.aload 5, 2) := by decide +kernel
theorem dX0_fillOther_144 : decode cX0_fillOther 144 = .ok (.iload_n 1, 1) := by decide +kernel
theorem dX0_fillOther_145 : decode cX0_fillOther 145 = .ok (.iload_n 3, 1) := by decide +kernel
theorem dX0_fillOther_146 : decode cX0_fillOther 146 = .ok (.invokevirtual 153, 3) := by decide +kernel
theorem dX0_fillOther_149 : decode cX0_fillOther 149 = .ok (.iadd, 1) := by decide +kernel
theorem dX0_fillOther_150 : decode cX0_fillOther 150 = .ok (.istore 6, 2) := by decide +kernel
theorem dX0_fillOther_152 : decode cX0_fillOther 152 = .ok (.aload_n 0, 1) := by decide +kernel
theorem dX0_fillOther_153 : decode cX0_fillOther 153 = .ok (.getfield 21, 3) := by decide +kernel
theorem dX0_fillOther_156 : decode cX0_fillOther 156 = .ok (.ifCond .eq 54, 3) := by decide +kernel
theorem dX0_fillOther_159 : decode cX0_fillOther 159 = .ok (.aload_n 0, 1) := by decide +kernel
theorem dX0_fillOther_160 : decode cX0_fillOther 160 = .ok (.iload_n 2, 1) := by decide +kernel
theorem dX0_fillOther_161 : decode cX0_fillOther 161 = .ok (.putfield 29, 3) := by decide +kernel
theorem dX0_fillOther_164 : decode cX0_fillOther 164 = .ok (.aload_n 0, 1) := by decide +kernel
theorem dX0_fillOther_165 : decode cX0_fillOther 165 = .ok (.iload_n 1, 1) := by decide +kernel
theorem dX0_fillOther_166 : decode cX0_fillOther 166 = .ok (.putfield 32, 3) := by decide +kernel
theorem dX0_fillOther_169 : decode cX0_fillOther 169 = .ok (.aload_n 0, 1) := by decide +kernel
theorem dX0_fillOther_170 : decode cX0_fillOther 170 = .ok (.iload_n 3, 1) := by decide +kernel
theorem dX0_fillOther_171 : decode cX0_fillOther 171 = .ok (.putfield 35, 3) := by decide +kernel
theorem dX0_fillOther_174 : decode cX0_fillOther 174 = .ok (.aload_n 0, 1) := by decide +kernel
theorem dX0_fillOther_175 : decode cX0_fillOther 175 = .ok (.iload 7, 2) := by decide +kernel
theorem dX0_fillOther_177 : decode cX0_fillOther 177 = .ok (.putfield 38, 3) := by decide +kernel
theorem dX0_fillOther_180 : decode cX0_fillOther 180 = .ok (.aload_n 0, 1) := by decide +kernel
theorem dX0_fillOther_181 : decode cX0_fillOther 181 = .ok (.getfield 48, 3) := by decide +kernel
theorem dX0_fillOther_184 : decode cX0_fillOther 184 = .ok (.iconst 0, 1) := by decide +kernel
theorem dX0_fillOther_185 : decode cX0_fillOther 185 = .ok (.aload_n 0, 1) := by decide +kernel
theorem dX0_fillOther_186 : decode cX0_fillOther 186 = .ok (.getfield 41, 3) := by decide +kernel
theorem dX0_fillOther_189 : decode cX0_fillOther 189 = .ok (.iconst 0, 1) := by decide +kernel
theorem dX0_fillOther_190 : decode cX0_fillOther 190 = .ok (.bipush 10, 2) := by decide +kernel
theorem dX0_fillOther_192 : decode cX0_fillOther 192 = .ok (.invokestatic 65, 3) := by decide +kernel
theorem dX0_fillOther_195 : decode cX0_fillOther 195 = .ok (.aload_n 0, 1) := by decide +kernel
theorem dX0_fillOther_196 : decode cX0_fillOther 196 = .ok (.getfield 51, 3) := by decide +kernel
theorem dX0_fillOther_199 : decode cX0_fillOther 199 = .ok (.iconst 0, 1) := by decide +kernel
theorem dX0_fillOther_200 : decode cX0_fillOther 200 = .ok (.aload_n 0, 1) := by decide +kernel
theorem dX0_fillOther_201 : decode cX0_fillOther 201 = .ok (.getfield 45, 3) := by decide +kernel
theorem dX0_fillOther_204 : decode cX0_fillOther 204 = .ok (.iconst 0, 1) := by decide +kernel
theorem dX0_fillOther_205 : decode cX0_fillOther 205 = .ok (.bipush 10, 2) := by decide +kernel
theorem dX0_fillOther_207 : decode cX0_fillOther 207 = .ok (.invokestatic 65, 3) := by decide +kernel
theorem dX0_fillOther_210 : decode cX0_fillOther 210 = .ok (.iload 6, 2) := by decide +kernel
theorem dX0_fillOther_212 : decode cX0_fillOther 212 = .ok (.ireturn, 1) := by decide +kernel
theorem dX0_writeRecord_0 : decode cX0_writeRecord 0 = .ok (.iload_n 3, 1) := by decide +kernel
theorem dX0_writeRecord_1 : decode cX0_writeRecord 1 = .ok (.iconst 1, 1) := by decide +kernel
theorem dX0_writeRecord_2 : decode cX0_writeRecord 2 = .ok (.iadd, 1) := by decide +kernel
theorem dX0_writeRecord_3 : decode cX0_writeRecord 3 = .ok (.istore 6, 2) := by decide +kernel
theorem dX0_writeRecord_5 : decode cX0_writeRecord 5 = .ok (.aload_n 0, 1) := by decide +kernel
theorem dX0_writeRecord_6 : decode cX0_writeRecord 6 = .ok (.aload_n 1, 1) := by decide +kernel
theorem dX0_writeRecord_7 : decode cX0_writeRecord 7 = .ok (.iload_n 2, 1) := by decide +kernel
theorem dX0_writeRecord_8 : decode cX0_writeRecord 8 = .ok (.iload 6, 2) := by decide +kernel
theorem dX0_writeRecord_10 : decode cX0_writeRecord 10 = .ok (.iload 4, 2) := by decide +kernel
theorem dX0_writeRecord_12 : decode cX0_writeRecord 12 = .ok (.iload 6, 2) := by decide +kernel
theorem dX0_writeRecord_14 : decode cX0_writeRecord 14 = .ok (.iload 4, 2) := by decide +kernel
theorem dX0_writeRecord_16 : decode cX0_writeRecord 16 = .ok (.iload 5, 2) := by decide +kernel
theorem dX0_writeRecord_18 : decode cX0_writeRecord 18 = .ok (.invokestatic 157, 3) := by decide +kernel
theorem dX0_writeRecord_21 : decode cX0_writeRecord 21 = .ok (.invokevirtual 161, 3) := by decide +kernel
theorem dX0_writeRecord_24 : decode cX0_writeRecord 24 = .ok (.ireturn, 1) := by decide +kernel
theorem dX0_writeHead_0 : decode cX0_writeHead 0 = .ok (.sipush 200, 3) := by decide +kernel
theorem dX0_writeHead_3 : decode cX0_writeHead 3 = .ok (.iload_n 2, 1) := by decide +kernel
theorem dX0_writeHead_4 : decode cX0_writeHead 4 = .ok (.iadd, 1) := by decide +kernel
theorem dX0_writeHead_5 : decode cX0_writeHead 5 = .ok (.istore 4, 2) := by decide +kernel
theorem dX0_writeHead_7 : decode cX0_writeHead 7 = .ok (.aload_n 0, 1) := by decide +kernel
theorem dX0_writeHead_8 : decode cX0_writeHead 8 = .ok (.aload_n 1, 1) := by decide +kernel
theorem dX0_writeHead_9 : decode cX0_writeHead 9 = .ok (.iconst 0, 1) := by decide +kernel
theorem dX0_writeHead_10 : decode cX0_writeHead 10 = .ok (.iload 4, 2) := by decide +kernel
theorem dX0_writeHead_12 : decode cX0_writeHead 12 = .ok (.iload_n 3, 1) := by decide +kernel
theorem dX0_writeHead_13 : decode cX0_writeHead 13 = .ok (.iload 4, 2) := by decide +kernel
theorem dX0_writeHead_15 : decode cX0_writeHead 15 = .ok (.iload_n 3, 1) := by decide +kernel
theorem dX0_writeHead_16 : decode cX0_writeHead 16 = .ok (.invokestatic 164, 3) := by decide +kernel
theorem dX0_writeHead_19 : decode cX0_writeHead 19 = .ok (.invokevirtual 161, 3) := by decide +kernel
theorem dX0_writeHead_22 : decode cX0_writeHead 22 = .ok (.ireturn, 1) := by decide +kernel
theorem dX0_writeThree_0 : decode cX0_writeThree 0 = .ok (.aload_n 0, 1) := by decide +kernel
theorem dX0_writeThree_1 : decode cX0_writeThree 1 = .ok (.aload_n 1, 1) := by decide +kernel
theorem dX0_writeThree_2 : decode cX0_writeThree 2 = .ok (.iload_n 2, 1) := by decide +kernel
theorem dX0_writeThree_3 : decode cX0_writeThree 3 = .ok (.iload_n 3, 1) := by decide +kernel
theorem dX0_writeThree_4 : decode cX0_writeThree 4 = .ok (.invokevirtual 167, 3) := by decide +kernel
theorem dX0_writeThree_7 : decode cX0_writeThree 7 = .ok (.istore 6, 2) := by decide +kernel
theorem dX0_writeThree_9 : decode cX0_writeThree 9 = .ok (.iload 6, 2) := by decide +kernel
theorem dX0_writeThree_11 : decode cX0_writeThree 11 = .ok (.aload_n 0, 1) := by decide +kernel
theorem dX0_writeThree_12 : decode cX0_writeThree 12 = .ok (.aload_n 1, 1) := by decide +kernel
theorem dX0_writeThree_13 : decode cX0_writeThree 13 = .ok (.iload_n 2, 1) := by decide +kernel
theorem dX0_writeThree_14 : decode cX0_writeThree 14 = .ok (.iconst 1, 1) := by decide +kernel
theorem dX0_writeThree_15 : decode cX0_writeThree 15 = .ok (.iadd, 1) := by decide +kernel
theorem dX0_writeThree_16 : decode cX0_writeThree 16 = .ok (.iload 4, 2) := by decide +kernel
theorem dX0_writeThree_18 : decode cX0_writeThree 18 = .ok (.invokevirtual 167, 3) := by decide +kernel
theorem dX0_writeThree_21 : decode cX0_writeThree 21 = .ok (.iadd, 1) := by decide +kernel
theorem dX0_writeThree_22 : decode cX0_writeThree 22 = .ok (.istore 6, 2) := by decide +kernel
theorem dX0_writeThree_24 : decode cX0_writeThree 24 = .ok (.iload 6, 2) := by decide +kernel
theorem dX0_writeThree_26 : decode cX0_writeThree 26 = .ok (.aload_n 0, 1) := by decide +kernel
theorem dX0_writeThree_27 : decode cX0_writeThree 27 = .ok (.aload_n 1, 1) := by decide +kernel
theorem dX0_writeThree_28 : decode cX0_writeThree 28 = .ok (.iload_n 2, 1) := by decide +kernel
theorem dX0_writeThree_29 : decode cX0_writeThree 29 = .ok (.iconst 2, 1) := by decide +kernel
theorem dX0_writeThree_30 : decode cX0_writeThree 30 = .ok (.iadd, 1) := by decide +kernel
theorem dX0_writeThree_31 : decode cX0_writeThree 31 = .ok (.iload 5, 2) := by decide +kernel
theorem dX0_writeThree_33 : decode cX0_writeThree 33 = .ok (.invokevirtual 167, 3) := by decide +kernel
theorem dX0_writeThree_36 : decode cX0_writeThree 36 = .ok (.iadd, 1) := by decide +kernel
theorem dX0_writeThree_37 : decode cX0_writeThree 37 = .ok (.istore 6, 2) := by decide +kernel
theorem dX0_writeThree_39 : decode cX0_writeThree 39 = .ok (.iload 6, 2) := by decide +kernel
theorem dX0_writeThree_41 : decode cX0_writeThree 41 = .ok (.ireturn, 1) := by decide +kernel
theorem dX0_writeCell_0 : decode cX0_writeCell 0 = .ok (.aload_n 0, 1) := by decide +kernel
theorem dX0_writeCell_1 : decode cX0_writeCell 1 = .ok (.getfield 25, 3) := by decide +kernel
theorem dX0_writeCell_4 : decode cX0_writeCell 4 = .ok (.ifCond .ne 14, 3) := by decide +kernel
theorem dX0_writeCell_7 : decode cX0_writeCell 7 = .ok (.aload_n 0, 1) := by decide +kernel
theorem dX0_writeCell_8 : decode cX0_writeCell 8 = .ok (.iconst 0, 1) := by decide +kernel
theorem dX0_writeCell_9 : decode cX0_writeCell 9 = .ok (.putfield 21, 3) := by decide +kernel
theorem dX0_writeCell_12 : decode cX0_writeCell 12 = .ok (.aload_n 0, 1) := by decide +kernel
theorem dX0_writeCell_13 : decode cX0_writeCell 13 = .ok (.bipush (-6), 2) := by decide +kernel
theorem dX0_writeCell_15 : decode cX0_writeCell 15 = .ok (.putfield 25, 3) := by decide +kernel
theorem dX0_writeCell_18 : decode cX0_writeCell 18 = .ok (.aload_n 0, 1) := by decide +kernel
theorem dX0_writeCell_19 : decode cX0_writeCell 19 = .ok (.getfield 21, 3) := by decide +kernel
theorem dX0_writeCell_22 : decode cX0_writeCell 22 = .ok (.ifCond .ne 5, 3) := by decide +kernel
theorem dX0_writeCell_25 : decode cX0_writeCell 25 = .ok (.iconst 0, 1) := by decide +kernel
theorem dX0_writeCell_26 : decode cX0_writeCell 26 = .ok (.ireturn, 1) := by decide +kernel
theorem dX0_writeCell_27 : decode cX0_writeCell 27 = .ok (.aload_n 0, 1) := by decide +kernel
theorem dX0_writeCell_28 : decode cX0_writeCell 28 = .ok (.getfield 25, 3) := by decide +kernel
theorem dX0_writeCell_31 : decode cX0_writeCell 31 = .ok (.ifCond .le 13, 3) := by decide +kernel
theorem dX0_writeCell_34 : decode cX0_writeCell 34 = .ok (.aload_n 0, 1) := by decide +kernel
theorem dX0_writeCell_35 : decode cX0_writeCell 35 = .ok (.dup, 1) := by decide +kernel
theorem dX0_writeCell_36 : decode cX0_writeCell 36 = .ok (.getfield 25, 3) := by decide +kernel
theorem dX0_writeCell_39 : decode cX0_writeCell 39 = .ok (.iconst 1, 1) := by decide +kernel
theorem dX0_writeCell_40 : decode cX0_writeCell 40 = .ok (.isub, 1) := by decide +kernel
theorem dX0_writeCell_41 : decode cX0_writeCell 41 = .ok (.putfield 25, 3) := by decide +kernel
theorem dX0_writeCell_44 : decode cX0_writeCell 44 = .ok (.aload_n 1, 1) := by decide +kernel
theorem dX0_writeCell_45 : decode cX0_writeCell 45 = .ok (.iload_n 2, 1) := by decide +kernel
theorem dX0_writeCell_46 : decode cX0_writeCell 46 = .ok (.iload_n 3, 1) := by decide +kernel
theorem dX0_writeCell_47 : decode cX0_writeCell 47 = .ok (.invokevirtual 170, 3) := by decide +kernel
theorem dX0_writeCell_50 : decode cX0_writeCell 50 = .ok (.aload_n 1, 1) := by decide +kernel
theorem dX0_writeCell_51 : decode cX0_writeCell 51 = .ok (.invokevirtual 174, 3) := by decide +kernel
theorem dX0_writeCell_54 : decode cX0_writeCell 54 = .ok (.iconst 1, 1) := by decide +kernel
theorem dX0_writeCell_55 : decode cX0_writeCell 55 = .ok (.ireturn, 1) := by decide +kernel
theorem dX1_init_0 : decode cX1_init 0 = .ok (.aload_n 0, 1) := by decide +kernel
theorem dX1_init_1 : decode cX1_init 1 = .ok (.invokespecial 3, 3) := by decide +kernel
theorem dX1_init_4 : decode cX1_init 4 = .ok (.aload_n 0, 1) := by decide +kernel
theorem dX1_init_5 : decode cX1_init 5 = .ok (.bipush 10, 2) := by decide +kernel
theorem dX1_init_7 : decode cX1_init 7 = .ok (.newarray .boolean, 2) := by decide +kernel
theorem dX1_init_9 : decode cX1_init 9 = .ok (.putfield 9, 3) := by decide +kernel
theorem dX1_init_12 : decode cX1_init 12 = .ok (.aload_n 0, 1) := by decide +kernel
theorem dX1_init_13 : decode cX1_init 13 = .ok (.bipush 10, 2) := by decide +kernel
theorem dX1_init_15 : decode cX1_init 15 = .ok (.newarray .int, 2) := by decide +kernel
theorem dX1_init_17 : decode cX1_init 17 = .ok (.putfield 15, 3) := by decide +kernel
theorem dX1_init_20 : decode cX1_init 20 = .ok (.aload_n 0, 1) := by decide +kernel
theorem dX1_init_21 : decode cX1_init 21 = .ok (.bipush 10, 2) := by decide +kernel
theorem dX1_init_23 : decode cX1_init 23 = .ok (.newarray .int, 2) := by decide +kernel
theorem dX1_init_25 : decode cX1_init 25 = .ok (.putfield 19, 3) := by decide +kernel
theorem dX1_init_28 : decode cX1_init 28 = .ok (.aload_n 0, 1) := by decide +kernel
theorem dX1_init_29 : decode cX1_init 29 = .ok (.bipush 10, 2) := by decide +kernel
theorem dX1_init_31 : decode cX1_init 31 = .ok (.newarray .int, 2) := by decide +kernel
theorem dX1_init_33 : decode cX1_init 33 = .ok (.putfield 22, 3) := by decide +kernel
theorem dX1_init_36 : decode cX1_init 36 = .ok (.aload_n 0, 1) := by decide +kernel
theorem dX1_init_37 : decode cX1_init 37 = .ok (.new 25, 3) := by decide +kernel
theorem dX1_init_40 : decode cX1_init 40 = .ok (.dup, 1) := by decide +kernel
theorem dX1_init_41 : decode cX1_init 41 = .ok (.invokespecial 27, 3) := by decide +kernel
theorem dX1_init_44 : decode cX1_init 44 = .ok (.putfield 28, 3) := by decide +kernel
theorem dX1_init_47 : decode cX1_init 47 = .ok (.return_, 1) := by decide +kernel
theorem dX1_has_0 : decode cX1_has 0 = .ok (.iload_n 1, 1) := by decide +kernel
theorem dX1_has_1 : decode cX1_has 1 = .ok (.ifCond .lt 22, 3) := by decide +kernel
theorem dX1_has_4 : decode cX1_has 4 = .ok (.iload_n 1, 1) := by decide +kernel
theorem dX1_has_5 : decode cX1_has 5 = .ok (.bipush 10, 2) := by decide +kernel
theorem dX1_has_7 : decode cX1_has 7 = .ok (.if_icmp .ge 16, 3) := by decide +kernel
theorem dX1_has_10 : decode cX1_has 10 = .ok (.aload_n 0, 1) := by decide +kernel
theorem dX1_has_11 : decode cX1_has 11 = .ok (.getfield 9, 3) := by decide +kernel
theorem dX1_has_14 : decode cX1_has 14 = .ok (.iload_n 1, 1) := by decide +kernel
theorem dX1_has_15 : decode cX1_has 15 = .ok (.baload, 1) := by decide +kernel
theorem dX1_has_16 : decode cX1_has 16 = .ok (.ifCond .eq 7, 3) := by decide +kernel
theorem dX1_has_19 : decode cX1_has 19 = .ok (.iconst 1, 1) := by decide +kernel
theorem dX1_has_20 : decode cX1_has 20 = .ok (.goto 4, 3) := by decide +kernel
theorem dX1_has_23 : decode cX1_has 23 = .ok (.iconst 0, 1) := by decide +kernel
theorem dX1_has_24 : decode cX1_has 24 = .ok (.ireturn, 1) := by decide +kernel
theorem dX1_greatestOf_0 : decode cX1_greatestOf 0 = .ok (.aload_n 0, 1) := by decide +kernel
theorem dX1_greatestOf_1 : decode cX1_greatestOf 1 = .ok (.iload_n 1, 1) := by decide +kernel
theorem dX1_greatestOf_2 : decode cX1_greatestOf 2 = .ok (.invokevirtual 32, 3) := by decide +kernel
theorem dX1_greatestOf_5 : decode cX1_greatestOf 5 = .ok (.ifCond .eq 12, 3) := by decide +kernel
theorem dX1_greatestOf_8 : decode cX1_greatestOf 8 = .ok (.aload_n 0, 1) := by decide +kernel
theorem dX1_greatestOf_9 : decode cX1_greatestOf 9 = .ok (.getfield 15, 3) := by decide +kernel
theorem dX1_greatestOf_12 : decode cX1_greatestOf 12 = .ok (.iload_n 1, 1) := by decide +kernel
theorem dX1_greatestOf_13 : decode cX1_greatestOf 13 = .ok (.iaload, 1) := by decide +kernel
theorem dX1_greatestOf_14 : decode cX1_greatestOf 14 = .ok (.goto 5, 3) := by decide +kernel
theorem dX1_greatestOf_17 : decode cX1_greatestOf 17 = .ok (.bipush (-6), 2) := by decide +kernel
theorem dX1_greatestOf_19 : decode cX1_greatestOf 19 = .ok (.ireturn, 1) := by decide +kernel
theorem dX1_defaultOf_0 : decode cX1_defaultOf 0 = .ok (.aload_n 0, 1) := by decide +kernel
theorem dX1_defaultOf_1 : decode cX1_defaultOf 1 = .ok (.iload_n 1, 1) := by decide +kernel
theorem dX1_defaultOf_2 : decode cX1_defaultOf 2 = .ok (.invokevirtual 32, 3) := by decide +kernel
theorem dX1_defaultOf_5 : decode cX1_defaultOf 5 = .ok (.ifCond .eq 12, 3) := by decide +kernel
theorem dX1_defaultOf_8 : decode cX1_defaultOf 8 = .ok (.aload_n 0, 1) := by decide +kernel
theorem dX1_defaultOf_9 : decode cX1_defaultOf 9 = .ok (.getfield 19, 3) := by decide +kernel
theorem dX1_defaultOf_12 : decode cX1_defaultOf 12 = .ok (.iload_n 1, 1) := by decide +kernel
theorem dX1_defaultOf_13 : decode cX1_defaultOf 13 = .ok (.iaload, 1) := by decide +kernel
theorem dX1_defaultOf_14 : decode cX1_defaultOf 14 = .ok (.goto 5, 3) := by decide +kernel
theorem dX1_defaultOf_17 : decode cX1_defaultOf 17 = .ok (.bipush (-6), 2) := by decide +kernel
theorem dX1_defaultOf_19 : decode cX1_defaultOf 19 = .ok (.ireturn, 1) := by decide +kernel
theorem dX1_nameBefore_0 : decode cX1_nameBefore 0 = .ok (.aload_n 0, 1) := by decide +kernel
theorem dX1_nameBefore_1 : decode cX1_nameBefore 1 = .ok (.iload_n 1, 1) := by decide +kernel
theorem dX1_nameBefore_2 : decode cX1_nameBefore 2 = .ok (.invokevirtual 32, 3) := by decide +kernel
theorem dX1_nameBefore_5 : decode cX1_nameBefore 5 = .ok (.ifCond .eq 12, 3) := by decide +kernel
theorem dX1_nameBefore_8 : decode cX1_nameBefore 8 = .ok (.aload_n 0, 1) := by decide +kernel
theorem dX1_nameBefore_9 : decode cX1_nameBefore 9 = .ok (.getfield 22, 3) := by decide +kernel
theorem dX1_nameBefore_12 : decode cX1_nameBefore 12 = .ok (.iload_n 1, 1) := by decide +kernel
theorem dX1_nameBefore_13 : decode cX1_nameBefore 13 = .ok (.iaload, 1) := by decide +kernel
theorem dX1_nameBefore_14 : decode cX1_nameBefore 14 = .ok (.goto 5, 3) := by decide +kernel
theorem dX1_nameBefore_17 : decode cX1_nameBefore 17 = .ok (.bipush (-6), 2) := by decide +kernel
theorem dX1_nameBefore_19 : decode cX1_nameBefore 19 = .ok (.ireturn, 1) := by decide +kernel
theorem dX1_takes_0 : decode cX1_takes 0 = .ok (.aload_n 0, 1) := by decide +kernel
theorem dX1_takes_1 : decode cX1_takes 1 = .ok (.iload_n 1, 1) := by decide +kernel
theorem dX1_takes_2 : decode cX1_takes 2 = .ok (.invokevirtual 32, 3) := by decide +kernel
theorem dX1_takes_5 : decode cX1_takes 5 = .ok (.ifCond .eq 21, 3) := by decide +kernel
theorem dX1_takes_8 : decode cX1_takes 8 = .ok (.iload_n 2, 1) := by decide +kernel
theorem dX1_takes_9 : decode cX1_takes 9 = .ok (.ifCond .lt 17, 3) := by decide +kernel
theorem dX1_takes_12 : decode cX1_takes 12 = .ok (.iload_n 2, 1) := by decide +kernel
theorem dX1_takes_13 : decode cX1_takes 13 = .ok (.aload_n 0, 1) := by decide +kernel
theorem dX1_takes_14 : decode cX1_takes 14 = .ok (.getfield 15, 3) := by decide +kernel
theorem dX1_takes_17 : decode cX1_takes 17 = .ok (.iload_n 1, 1) := by decide +kernel
theorem dX1_takes_18 : decode cX1_takes 18 = .ok (.iaload, 1) := by decide +kernel
theorem dX1_takes_19 : decode cX1_takes 19 = .ok (.if_icmp .gt 7, 3) := by decide +kernel
theorem dX1_takes_22 : decode cX1_takes 22 = .ok (.iconst 1, 1) := by decide +kernel
theorem dX1_takes_23 : decode cX1_takes 23 = .ok (.goto 4, 3) := by decide +kernel
theorem dX1_takes_26 : decode cX1_takes 26 = .ok (.iconst 0, 1) := by decide +kernel
theorem dX1_takes_27 : decode cX1_takes 27 = .ok (.ireturn, 1) := by decide +kernel
theorem dX1_makeFrom_0 : decode cX1_makeFrom 0 = .ok (.iconst 0, 1) := by decide +kernel
theorem dX1_makeFrom_1 : decode cX1_makeFrom 1 = .ok (.istore_n 3, 1) := by decide +kernel
theorem dX1_makeFrom_2 : decode cX1_makeFrom 2 = .ok (.iload_n 3, 1) := by decide +kernel
theorem dX1_makeFrom_3 : decode cX1_makeFrom 3 = .ok (.bipush 10, 2) := by decide +kernel
theorem dX1_makeFrom_5 : decode cX1_makeFrom 5 = .ok (.if_icmp .ge 52, 3) := by decide +kernel
theorem dX1_makeFrom_8 : decode cX1_makeFrom 8 = .ok (.aload_n 0, 1) := by decide +kernel
theorem dX1_makeFrom_9 : decode cX1_makeFrom 9 = .ok (.getfield 9, 3) := by decide +kernel
theorem dX1_makeFrom_12 : decode cX1_makeFrom 12 = .ok (.iload_n 3, 1) := by decide +kernel
theorem dX1_makeFrom_13 : decode cX1_makeFrom 13 = .ok (.aload_n 1, 1) := by decide +kernel
theorem dX1_makeFrom_14 : decode cX1_makeFrom 14 = .ok (.getfield 9, 3) := by decide +kernel
theorem dX1_makeFrom_17 : decode cX1_makeFrom 17 = .ok (.iload_n 3, 1) := by decide +kernel
theorem dX1_makeFrom_18 : decode cX1_makeFrom 18 = .ok (.baload, 1) := by decide +kernel
theorem dX1_makeFrom_19 : decode cX1_makeFrom 19 = .ok (.bastore, 1) := by decide +kernel
theorem dX1_makeFrom_20 : decode cX1_makeFrom 20 = .ok (.aload_n 0, 1) := by decide +kernel
theorem dX1_makeFrom_21 : decode cX1_makeFrom 21 = .ok (.getfield 15, 3) := by decide +kernel
theorem dX1_makeFrom_24 : decode cX1_makeFrom 24 = .ok (.iload_n 3, 1) := by decide +kernel
theorem dX1_makeFrom_25 : decode cX1_makeFrom 25 = .ok (.aload_n 1, 1) := by decide +kernel
theorem dX1_makeFrom_26 : decode cX1_makeFrom 26 = .ok (.getfield 15, 3) := by decide +kernel
theorem dX1_makeFrom_29 : decode cX1_makeFrom 29 = .ok (.iload_n 3, 1) := by decide +kernel
theorem dX1_makeFrom_30 : decode cX1_makeFrom 30 = .ok (.iaload, 1) := by decide +kernel
theorem dX1_makeFrom_31 : decode cX1_makeFrom 31 = .ok (.iastore, 1) := by decide +kernel
theorem dX1_makeFrom_32 : decode cX1_makeFrom 32 = .ok (.aload_n 0, 1) := by decide +kernel
theorem dX1_makeFrom_33 : decode cX1_makeFrom 33 = .ok (.getfield 19, 3) := by decide +kernel
theorem dX1_makeFrom_36 : decode cX1_makeFrom 36 = .ok (.iload_n 3, 1) := by decide +kernel
theorem dX1_makeFrom_37 : decode cX1_makeFrom 37 = .ok (.aload_n 1, 1) := by decide +kernel
theorem dX1_makeFrom_38 : decode cX1_makeFrom 38 = .ok (.getfield 19, 3) := by decide +kernel
theorem dX1_makeFrom_41 : decode cX1_makeFrom 41 = .ok (.iload_n 3, 1) := by decide +kernel
theorem dX1_makeFrom_42 : decode cX1_makeFrom 42 = .ok (.iaload, 1) := by decide +kernel
theorem dX1_makeFrom_43 : decode cX1_makeFrom 43 = .ok (.iastore, 1) := by decide +kernel
theorem dX1_makeFrom_44 : decode cX1_makeFrom 44 = .ok (.aload_n 0, 1) := by decide +kernel
theorem dX1_makeFrom_45 : decode cX1_makeFrom 45 = .ok (.getfield 22, 3) := by decide +kernel
theorem dX1_makeFrom_48 : decode cX1_makeFrom 48 = .ok (.iload_n 3, 1) := by decide +kernel
theorem dX1_makeFrom_49 : decode cX1_makeFrom 49 = .ok (.iload_n 3, 1) := by decide +kernel
theorem dX1_makeFrom_50 : decode cX1_makeFrom 50 = .ok (.iastore, 1) := by decide +kernel
theorem dX1_makeFrom_51 : decode cX1_makeFrom 51 = .ok (.iinc 3 1, 3) := by decide +kernel
theorem dX1_makeFrom_54 : decode cX1_makeFrom 54 = .ok (.goto (-52), 3) := by decide +kernel
theorem dX1_makeFrom_57 : decode cX1_makeFrom 57 = .ok (.aload_n 0, 1) := by decide +kernel
theorem dX1_makeFrom_58 : decode cX1_makeFrom 58 = .ok (.getfield 28, 3) := by decide +kernel
theorem dX1_makeFrom_61 : decode cX1_makeFrom 61 = .ok (.aload_n 2, 1) := by decide +kernel
theorem dX1_makeFrom_62 : decode cX1_makeFrom 62 = .ok (.invokevirtual 36, 3) := by decide +kernel
theorem dX1_makeFrom_65 : decode cX1_makeFrom 65 = .ok (.aload_n 0, 1) := by decide +kernel
theorem dX1_makeFrom_66 : decode cX1_makeFrom 66 = .ok (.getfield 28, 3) := by decide +kernel
theorem dX1_makeFrom_69 : decode cX1_makeFrom 69 = .ok (.aload_n 0, 1) := by decide +kernel
theorem dX1_makeFrom_70 : decode cX1_makeFrom 70 = .ok (.invokevirtual 40, 3) := by decide +kernel
theorem dX1_makeFrom_73 : decode cX1_makeFrom 73 = .ok (.ireturn, 1) := by decide +kernel
theorem dX1_addSetting_0 : decode cX1_addSetting 0 = .ok (.iload_n 1, 1) := by decide +kernel
theorem dX1_addSetting_1 : decode cX1_addSetting 1 = .ok (.invokestatic 44, 3) := by decide +kernel
theorem dX1_addSetting_4 : decode cX1_addSetting 4 = .ok (.ifCond .eq 17, 3) := by decide +kernel
theorem dX1_addSetting_7 : decode cX1_addSetting 7 = .ok (.aload_n 0, 1) := by decide +kernel
theorem dX1_addSetting_8 : decode cX1_addSetting 8 = .ok (.getfield 9, 3) := by decide +kernel
theorem dX1_addSetting_11 : decode cX1_addSetting 11 = .ok (.iload_n 1, 1) := by decide +kernel
theorem dX1_addSetting_12 : decode cX1_addSetting 12 = .ok (.baload, 1) := by decide +kernel
theorem dX1_addSetting_13 : decode cX1_addSetting 13 = .ok (.ifCond .ne 8, 3) := by decide +kernel
theorem dX1_addSetting_16 : decode cX1_addSetting 16 = .ok (.iload_n 3, 1) := by decide +kernel
theorem dX1_addSetting_17 : decode cX1_addSetting 17 = .ok (.iload_n 2, 1) := by decide +kernel
theorem dX1_addSetting_18 : decode cX1_addSetting 18 = .ok (.if_icmp .le 5, 3) := by decide +kernel
theorem dX1_addSetting_21 : decode cX1_addSetting 21 = .ok (.iconst 0, 1) := by decide +kernel
theorem dX1_addSetting_22 : decode cX1_addSetting 22 = .ok (.ireturn, 1) := by decide +kernel
theorem dX1_addSetting_23 : decode cX1_addSetting 23 = .ok (.aload_n 0, 1) := by decide +kernel
theorem dX1_addSetting_24 : decode cX1_addSetting 24 = .ok (.getfield 9, 3) := by decide +kernel
theorem dX1_addSetting_27 : decode cX1_addSetting 27 = .ok (.iload_n 1, 1) := by decide +kernel
theorem dX1_addSetting_28 : decode cX1_addSetting 28 = .ok (.iconst 1, 1) := by decide +kernel
theorem dX1_addSetting_29 : decode cX1_addSetting 29 = .ok (.bastore, 1) := by decide +kernel
theorem dX1_addSetting_30 : decode cX1_addSetting 30 = .ok (.aload_n 0, 1) := by decide +kernel
theorem dX1_addSetting_31 : decode cX1_addSetting 31 = .ok (.getfield 15, 3) := by decide +kernel
theorem dX1_addSetting_34 : decode cX1_addSetting 34 = .ok (.iload_n 1, 1) := by decide +kernel
theorem dX1_addSetting_35 : decode cX1_addSetting 35 = .ok (.iload_n 2, 1) := by decide +kernel
theorem dX1_addSetting_36 : decode cX1_addSetting 36 = .ok (.iastore, 1) := by decide +kernel
theorem dX1_addSetting_37 : decode cX1_addSetting 37 = .ok (.aload_n 0, 1) := by decide +kernel
theorem dX1_addSetting_38 : decode cX1_addSetting 38 = .ok (.getfield 19, 3) := by decide +kernel
theorem dX1_addSetting_41 : decode cX1_addSetting 41 = .ok (.iload_n 1, 1) := by decide +kernel
theorem dX1_addSetting_42 : decode cX1_addSetting 42 = .ok (.iload_n 3, 1) := by decide +kernel
theorem dX1_addSetting_43 : decode cX1_addSetting 43 = .ok (.iastore, 1) := by decide +kernel
theorem dX1_addSetting_44 : decode cX1_addSetting 44 = .ok (.aload_n 0, 1) := by decide +kernel
theorem dX1_addSetting_45 : decode cX1_addSetting 45 = .ok (.getfield 22, 3) := by decide +kernel
theorem dX1_addSetting_48 : decode cX1_addSetting 48 = .ok (.iload_n 1, 1) := by decide +kernel
theorem dX1_addSetting_49 : decode cX1_addSetting 49 = .ok (.bipush (-6), 2) := by decide +kernel
theorem dX1_addSetting_51 : decode cX1_addSetting 51 = .ok (.iastore, 1) := by decide +kernel
theorem dX1_addSetting_52 : decode cX1_addSetting 52 = .ok (.iconst 1, 1) := by decide +kernel
theorem dX1_addSetting_53 : decode cX1_addSetting 53 = .ok (.ireturn, 1) := by decide +kernel
theorem dX1_dropSetting_0 : decode cX1_dropSetting 0 = .ok (.aload_n 0, 1) := by decide +kernel
theorem dX1_dropSetting_1 : decode cX1_dropSetting 1 = .ok (.iload_n 1, 1) := by decide +kernel
theorem dX1_dropSetting_2 : decode cX1_dropSetting 2 = .ok (.invokevirtual 32, 3) := by decide +kernel
theorem dX1_dropSetting_5 : decode cX1_dropSetting 5 = .ok (.ifCond .ne 5, 3) := by decide +kernel
theorem dX1_dropSetting_8 : decode cX1_dropSetting 8 = .ok (.iconst 0, 1) := by decide +kernel
theorem dX1_dropSetting_9 : decode cX1_dropSetting 9 = .ok (.ireturn, 1) := by decide +kernel
theorem dX1_dropSetting_10 : decode cX1_dropSetting 10 = .ok (.aload_n 0, 1) := by decide +kernel
theorem dX1_dropSetting_11 : decode cX1_dropSetting 11 = .ok (.getfield 9, 3) := by decide +kernel
theorem dX1_dropSetting_14 : decode cX1_dropSetting 14 = .ok (.iload_n 1, 1) := by decide +kernel
theorem dX1_dropSetting_15 : decode cX1_dropSetting 15 = .ok (.iconst 0, 1) := by decide +kernel
theorem dX1_dropSetting_16 : decode cX1_dropSetting 16 = .ok (.bastore, 1) := by decide +kernel
theorem dX1_dropSetting_17 : decode cX1_dropSetting 17 = .ok (.iconst 1, 1) := by decide +kernel
theorem dX1_dropSetting_18 : decode cX1_dropSetting 18 = .ok (.ireturn, 1) := by decide +kernel
theorem dX1_renameSetting_0 : decode cX1_renameSetting 0 = .ok (.aload_n 0, 1) := by decide +kernel
theorem dX1_renameSetting_1 : decode cX1_renameSetting 1 = .ok (.iload_n 1, 1) := by decide +kernel
theorem dX1_renameSetting_2 : decode cX1_renameSetting 2 = .ok (.invokevirtual 32, 3) := by decide +kernel
theorem dX1_renameSetting_5 : decode cX1_renameSetting 5 = .ok (.ifCond .eq 19, 3) := by decide +kernel
theorem dX1_renameSetting_8 : decode cX1_renameSetting 8 = .ok (.iload_n 2, 1) := by decide +kernel
theorem dX1_renameSetting_9 : decode cX1_renameSetting 9 = .ok (.invokestatic 44, 3) := by decide +kernel
theorem dX1_renameSetting_12 : decode cX1_renameSetting 12 = .ok (.ifCond .eq 12, 3) := by decide +kernel
theorem dX1_renameSetting_15 : decode cX1_renameSetting 15 = .ok (.aload_n 0, 1) := by decide +kernel
theorem dX1_renameSetting_16 : decode cX1_renameSetting 16 = .ok (.getfield 9, 3) := by decide +kernel
theorem dX1_renameSetting_19 : decode cX1_renameSetting 19 = .ok (.iload_n 2, 1) := by decide +kernel
theorem dX1_renameSetting_20 : decode cX1_renameSetting 20 = .ok (.baload, 1) := by decide +kernel
theorem dX1_renameSetting_21 : decode cX1_renameSetting 21 = .ok (.ifCond .eq 5, 3) := by decide +kernel
theorem dX1_renameSetting_24 : decode cX1_renameSetting 24 = .ok (.iconst 0, 1) := by decide +kernel
theorem dX1_renameSetting_25 : decode cX1_renameSetting 25 = .ok (.ireturn, 1) := by decide +kernel
theorem dX1_renameSetting_26 : decode cX1_renameSetting 26 = .ok (.aload_n 0, 1) := by decide +kernel
theorem dX1_renameSetting_27 : decode cX1_renameSetting 27 = .ok (.getfield 9, 3) := by decide +kernel
theorem dX1_renameSetting_30 : decode cX1_renameSetting 30 = .ok (.iload_n 1, 1) := by decide +kernel
theorem dX1_renameSetting_31 : decode cX1_renameSetting 31 = .ok (.iconst 0, 1) := by decide +kernel
theorem dX1_renameSetting_32 : decode cX1_renameSetting 32 = .ok (.bastore, 1) := by decide +kernel
theorem dX1_renameSetting_33 : decode cX1_renameSetting 33 = .ok (.aload_n 0, 1) := by decide +kernel
theorem dX1_renameSetting_34 : decode cX1_renameSetting 34 = .ok (.getfield 9, 3) := by decide +kernel
theorem dX1_renameSetting_37 : decode cX1_renameSetting 37 = .ok (.iload_n 2, 1) := by decide +kernel
theorem dX1_renameSetting_38 : decode cX1_renameSetting 38 = .ok (.iconst 1, 1) := by decide +kernel
theorem dX1_renameSetting_39 : decode cX1_renameSetting 39 = .ok (.bastore, 1) := by decide +kernel
theorem dX1_renameSetting_40 : decode cX1_renameSetting 40 = .ok (.aload_n 0, 1) := by decide +kernel
theorem dX1_renameSetting_41 : decode cX1_renameSetting 41 = .ok (.getfield 15, 3) := by decide +kernel
theorem dX1_renameSetting_44 : decode cX1_renameSetting 44 = .ok (.iload_n 2, 1) := by decide +kernel
theorem dX1_renameSetting_45 : decode cX1_renameSetting 45 = .ok (.aload_n 0, 1) := by decide +kernel
theorem dX1_renameSetting_46 : decode cX1_renameSetting 46 = .ok (.getfield 15, 3) := by decide +kernel
theorem dX1_renameSetting_49 : decode cX1_renameSetting 49 = .ok (.iload_n 1, 1) := by decide +kernel
theorem dX1_renameSetting_50 : decode cX1_renameSetting 50 = .ok (.iaload, 1) := by decide +kernel
theorem dX1_renameSetting_51 : decode cX1_renameSetting 51 = .ok (.iastore, 1) := by decide +kernel
theorem dX1_renameSetting_52 : decode cX1_renameSetting 52 = .ok (.aload_n 0, 1) := by decide +kernel
theorem dX1_renameSetting_53 : decode cX1_renameSetting 53 = .ok (.getfield 19, 3) := by decide +kernel
theorem dX1_renameSetting_56 : decode cX1_renameSetting 56 = .ok (.iload_n 2, 1) := by decide +kernel
theorem dX1_renameSetting_57 : decode cX1_renameSetting 57 = .ok (.aload_n 0, 1) := by decide +kernel
theorem dX1_renameSetting_58 : decode cX1_renameSetting 58 = .ok (.getfield 19, 3) := by decide +kernel
theorem dX1_renameSetting_61 : decode cX1_renameSetting 61 = .ok (.iload_n 1, 1) := by decide +kernel
theorem dX1_renameSetting_62 : decode cX1_renameSetting 62 = .ok (.iaload, 1) := by decide +kernel
theorem dX1_renameSetting_63 : decode cX1_renameSetting 63 = .ok (.iastore, 1) := by decide +kernel
theorem dX1_renameSetting_64 : decode cX1_renameSetting 64 = .ok (.aload_n 0, 1) := by decide +kernel
theorem dX1_renameSetting_65 : decode cX1_renameSetting 65 = .ok (.getfield 22, 3) := by decide +kernel
theorem dX1_renameSetting_68 : decode cX1_renameSetting 68 = .ok (.iload_n 2, 1) := by decide +kernel
theorem dX1_renameSetting_69 : decode cX1_renameSetting 69 = .ok (.aload_n 0, 1) := by decide +kernel
theorem dX1_renameSetting_70 : decode cX1_renameSetting 70 = .ok (.getfield 22, 3) := by decide +kernel
theorem dX1_renameSetting_73 : decode cX1_renameSetting 73 = .ok (.iload_n 1, 1) := by decide +kernel
theorem dX1_renameSetting_74 : decode cX1_renameSetting 74 = .ok (.iaload, 1) := by decide +kernel
theorem dX1_renameSetting_75 : decode cX1_renameSetting 75 = .ok (.iastore, 1) := by decide +kernel
theorem dX1_renameSetting_76 : decode cX1_renameSetting 76 = .ok (.iconst 1, 1) := by decide +kernel
theorem dX1_renameSetting_77 : decode cX1_renameSetting 77 = .ok (.ireturn, 1) := by decide +kernel
theorem dX1_scaleSetting_0 : decode cX1_scaleSetting 0 = .ok (.aload_n 0, 1) := by decide +kernel
theorem dX1_scaleSetting_1 : decode cX1_scaleSetting 1 = .ok (.iload_n 1, 1) := by decide +kernel
theorem dX1_scaleSetting_2 : decode cX1_scaleSetting 2 = .ok (.invokevirtual 32, 3) := by decide +kernel
theorem dX1_scaleSetting_5 : decode cX1_scaleSetting 5 = .ok (.ifCond .ne 5, 3) := by decide +kernel
theorem dX1_scaleSetting_8 : decode cX1_scaleSetting 8 = .ok (.iconst 0, 1) := by decide +kernel
theorem dX1_scaleSetting_9 : decode cX1_scaleSetting 9 = .ok (.ireturn, 1) := by decide +kernel
theorem dX1_scaleSetting_10 : decode cX1_scaleSetting 10 = .ok (.aload_n 0, 1) := by decide +kernel
theorem dX1_scaleSetting_11 : decode cX1_scaleSetting 11 = .ok (.getfield 15, 3) := by decide +kernel
theorem dX1_scaleSetting_14 : decode cX1_scaleSetting 14 = .ok (.iload_n 1, 1) := by decide +kernel
theorem dX1_scaleSetting_15 : decode cX1_scaleSetting 15 = .ok (.iload_n 2, 1) := by decide +kernel
theorem dX1_scaleSetting_16 : decode cX1_scaleSetting 16 = .ok (.iload_n 3, 1) := by decide +kernel
theorem dX1_scaleSetting_17 : decode cX1_scaleSetting 17 = .ok (.aload_n 0, 1) := by decide +kernel
theorem dX1_scaleSetting_18 : decode cX1_scaleSetting 18 = .ok (.getfield 15, 3) := by decide +kernel
theorem dX1_scaleSetting_21 : decode cX1_scaleSetting 21 = .ok (.iload_n 1, 1) := by decide +kernel
theorem dX1_scaleSetting_22 : decode cX1_scaleSetting 22 = .ok (.iaload, 1) := by decide +kernel
theorem dX1_scaleSetting_23 : decode cX1_scaleSetting 23 = .ok (.invokestatic 47, 3) := by decide +kernel
theorem dX1_scaleSetting_26 : decode cX1_scaleSetting 26 = .ok (.iastore, 1) := by decide +kernel
theorem dX1_scaleSetting_27 : decode cX1_scaleSetting 27 = .ok (.aload_n 0, 1) := by decide +kernel
theorem dX1_scaleSetting_28 : decode cX1_scaleSetting 28 = .ok (.getfield 19, 3) := by decide +kernel
theorem dX1_scaleSetting_31 : decode cX1_scaleSetting 31 = .ok (.iload_n 1, 1) := by decide +kernel
theorem dX1_scaleSetting_32 : decode cX1_scaleSetting 32 = .ok (.iload_n 2, 1) := by decide +kernel
theorem dX1_scaleSetting_33 : decode cX1_scaleSetting 33 = .ok (.iload_n 3, 1) := by decide +kernel
theorem dX1_scaleSetting_34 : decode cX1_scaleSetting 34 = .ok (.aload_n 0, 1) := by decide +kernel
theorem dX1_scaleSetting_35 : decode cX1_scaleSetting 35 = .ok (.getfield 19, 3) := by decide +kernel
theorem dX1_scaleSetting_38 : decode cX1_scaleSetting 38 = .ok (.iload_n 1, 1) := by decide +kernel
theorem dX1_scaleSetting_39 : decode cX1_scaleSetting 39 = .ok (.iaload, 1) := by decide +kernel
theorem dX1_scaleSetting_40 : decode cX1_scaleSetting 40 = .ok (.invokestatic 47, 3) := by decide +kernel
theorem dX1_scaleSetting_43 : decode cX1_scaleSetting 43 = .ok (.iastore, 1) := by decide +kernel
theorem dX1_scaleSetting_44 : decode cX1_scaleSetting 44 = .ok (.iconst 1, 1) := by decide +kernel
theorem dX1_scaleSetting_45 : decode cX1_scaleSetting 45 = .ok (.ireturn, 1) := by decide +kernel
theorem dX1_carryOver_0 : decode cX1_carryOver 0 = .ok (.aload_n 0, 1) := by decide +kernel
theorem dX1_carryOver_1 : decode cX1_carryOver 1 = .ok (.getfield 28, 3) := by decide +kernel
theorem dX1_carryOver_4 : decode cX1_carryOver 4 = .ok (.aload_n 1, 1) := by decide +kernel
theorem dX1_carryOver_5 : decode cX1_carryOver 5 = .ok (.invokevirtual 51, 3) := by decide +kernel
theorem dX1_carryOver_8 : decode cX1_carryOver 8 = .ok (.return_, 1) := by decide +kernel
theorem dX2_init_0 : decode cX2_init 0 = .ok (.aload_n 0, 1) := by decide +kernel
theorem dX2_init_1 : decode cX2_init 1 = .ok (.invokespecial 3, 3) := by decide +kernel
theorem dX2_init_4 : decode cX2_init 4 = .ok (.aload_n 0, 1) := by decide +kernel
theorem dX2_init_5 : decode cX2_init 5 = .ok (.new 9, 3) := by decide +kernel
theorem dX2_init_8 : decode cX2_init 8 = .ok (.dup, 1) := by decide +kernel
theorem dX2_init_9 : decode cX2_init 9 = .ok (.invokespecial 11, 3) := by decide +kernel
theorem dX2_init_12 : decode cX2_init 12 = .ok (.putfield 12, 3) := by decide +kernel
theorem dX2_init_15 : decode cX2_init 15 = .ok (.aload_n 0, 1) := by decide +kernel
theorem dX2_init_16 : decode cX2_init 16 = .ok (.bipush 6, 2) := by decide +kernel
theorem dX2_init_18 : decode cX2_init 18 = .ok (.anewarray 9, 3) := by decide +kernel
theorem dX2_init_21 : decode cX2_init 21 = .ok (.putfield 18, 3) := by decide +kernel
theorem dX2_init_24 : decode cX2_init 24 = .ok (.iconst 0, 1) := by decide +kernel
theorem dX2_init_25 : decode cX2_init 25 = .ok (.istore_n 1, 1) := by decide +kernel
theorem dX2_init_26 : decode cX2_init 26 = .ok (.iload_n 1, 1) := by decide +kernel
theorem dX2_init_27 : decode cX2_init 27 = .ok (.bipush 6, 2) := by decide +kernel
theorem dX2_init_29 : decode cX2_init 29 = .ok (.if_icmp .ge 22, 3) := by decide +kernel
theorem dX2_init_32 : decode cX2_init 32 = .ok (.aload_n 0, 1) := by decide +kernel
theorem dX2_init_33 : decode cX2_init 33 = .ok (.getfield 18, 3) := by decide +kernel
theorem dX2_init_36 : decode cX2_init 36 = .ok (.iload_n 1, 1) := by decide +kernel
theorem dX2_init_37 : decode cX2_init 37 = .ok (.new 9, 3) := by decide +kernel
theorem dX2_init_40 : decode cX2_init 40 = .ok (.dup, 1) := by decide +kernel
theorem dX2_init_41 : decode cX2_init 41 = .ok (.invokespecial 11, 3) := by decide +kernel
theorem dX2_init_44 : decode cX2_init 44 = .ok (.aastore, 1) := by decide +kernel
theorem dX2_init_45 : decode cX2_init 45 = .ok (.iinc 1 1, 3) := by decide +kernel
theorem dX2_init_48 : decode cX2_init 48 = .ok (.goto (-22), 3) := by decide +kernel
theorem dX2_init_51 : decode cX2_init 51 = .ok (.return_, 1) := by decide +kernel
theorem dX2_count_0 : decode cX2_count 0 = .ok (.aload_n 0, 1) := by decide +kernel
theorem dX2_count_1 : decode cX2_count 1 = .ok (.getfield 22, 3) := by decide +kernel
theorem dX2_count_4 : decode cX2_count 4 = .ok (.ireturn, 1) := by decide +kernel
theorem dX2_has_0 : decode cX2_has 0 = .ok (.iload_n 1, 1) := by decide +kernel
theorem dX2_has_1 : decode cX2_has 1 = .ok (.ifCond .lt 21, 3) := by decide +kernel
theorem dX2_has_4 : decode cX2_has 4 = .ok (.iload_n 1, 1) := by decide +kernel
theorem dX2_has_5 : decode cX2_has 5 = .ok (.aload_n 0, 1) := by decide +kernel
theorem dX2_has_6 : decode cX2_has 6 = .ok (.getfield 22, 3) := by decide +kernel
theorem dX2_has_9 : decode cX2_has 9 = .ok (.if_icmp .ge 13, 3) := by decide +kernel
theorem dX2_has_12 : decode cX2_has 12 = .ok (.iload_n 1, 1) := by decide +kernel
theorem dX2_has_13 : decode cX2_has 13 = .ok (.bipush 6, 2) := by decide +kernel
theorem dX2_has_15 : decode cX2_has 15 = .ok (.if_icmp .ge 7, 3) := by decide +kernel
theorem dX2_has_18 : decode cX2_has 18 = .ok (.iconst 1, 1) := by decide +kernel
theorem dX2_has_19 : decode cX2_has 19 = .ok (.goto 4, 3) := by decide +kernel
theorem dX2_has_22 : decode cX2_has 22 = .ok (.iconst 0, 1) := by decide +kernel
theorem dX2_has_23 : decode cX2_has 23 = .ok (.ireturn, 1) := by decide +kernel
theorem dX2_of_0 : decode cX2_of 0 = .ok (.aload_n 0, 1) := by decide +kernel
theorem dX2_of_1 : decode cX2_of 1 = .ok (.iload_n 1, 1) := by decide +kernel
theorem dX2_of_2 : decode cX2_of 2 = .ok (.invokevirtual 26, 3) := by decide +kernel
theorem dX2_of_5 : decode cX2_of 5 = .ok (.ifCond .eq 12, 3) := by decide +kernel
theorem dX2_of_8 : decode cX2_of 8 = .ok (.aload_n 0, 1) := by decide +kernel
theorem dX2_of_9 : decode cX2_of 9 = .ok (.getfield 18, 3) := by decide +kernel
theorem dX2_of_12 : decode cX2_of 12 = .ok (.iload_n 1, 1) := by decide +kernel
theorem dX2_of_13 : decode cX2_of 13 = .ok (.aaload, 1) := by decide +kernel
theorem dX2_of_14 : decode cX2_of 14 = .ok (.goto 7, 3) := by decide +kernel
theorem dX2_of_17 : decode cX2_of 17 = .ok (.aload_n 0, 1) := by decide +kernel
theorem dX2_of_18 : decode cX2_of 18 = .ok (.getfield 12, 3) := by decide +kernel
theorem dX2_of_21 : decode cX2_of 21 = .ok (.areturn, 1) := by decide +kernel
theorem dX2_extend_0 : decode cX2_extend 0 = .ok (.aload_n 0, 1) := by decide +kernel
theorem dX2_extend_1 : decode cX2_extend 1 = .ok (.getfield 22, 3) := by decide +kernel
theorem dX2_extend_4 : decode cX2_extend 4 = .ok (.bipush 6, 2) := by decide +kernel
theorem dX2_extend_6 : decode cX2_extend 6 = .ok (.if_icmp .ge 29, 3) := by decide +kernel
theorem dX2_extend_9 : decode cX2_extend 9 = .ok (.aload_n 0, 1) := by decide +kernel
theorem dX2_extend_10 : decode cX2_extend 10 = .ok (.getfield 18, 3) := by decide +kernel
theorem dX2_extend_13 : decode cX2_extend 13 = .ok (.aload_n 0, 1) := by decide +kernel
theorem dX2_extend_14 : decode cX2_extend 14 = .ok (.getfield 22, 3) := by decide +kernel
theorem dX2_extend_17 : decode cX2_extend 17 = .ok (.aaload, 1) := by decide +kernel
theorem dX2_extend_18 : decode cX2_extend 18 = .ok (.aload_n 0, 1) := by decide +kernel
theorem dX2_extend_19 : decode cX2_extend 19 = .ok (.aload_n 0, 1) := by decide +kernel
theorem dX2_extend_20 : decode cX2_extend 20 = .ok (.getfield 22, 3) := by decide +kernel
theorem dX2_extend_23 : decode cX2_extend 23 = .ok (.iconst 1, 1) := by decide +kernel
theorem dX2_extend_24 : decode cX2_extend 24 = .ok (.isub, 1) := by decide +kernel
theorem dX2_extend_25 : decode cX2_extend 25 = .ok (.invokevirtual 30, 3) := by decide +kernel
theorem dX2_extend_28 : decode cX2_extend 28 = .ok (.aload_n 1, 1) := by decide +kernel
theorem dX2_extend_29 : decode cX2_extend 29 = .ok (.invokevirtual 34, 3) := by decide +kernel
theorem dX2_extend_32 : decode cX2_extend 32 = .ok (.ifCond .ne 5, 3) := by decide +kernel
theorem dX2_extend_35 : decode cX2_extend 35 = .ok (.iconst 0, 1) := by decide +kernel
theorem dX2_extend_36 : decode cX2_extend 36 = .ok (.ireturn, 1) := by decide +kernel
theorem dX2_extend_37 : decode cX2_extend 37 = .ok (.aload_n 0, 1) := by decide +kernel
theorem dX2_extend_38 : decode cX2_extend 38 = .ok (.dup, 1) := by decide +kernel
theorem dX2_extend_39 : decode cX2_extend 39 = .ok (.getfield 22, 3) := by decide +kernel
theorem dX2_extend_42 : decode cX2_extend 42 = .ok (.iconst 1, 1) := by decide +kernel
theorem dX2_extend_43 : decode cX2_extend 43 = .ok (.iadd, 1) := by decide +kernel
theorem dX2_extend_44 : decode cX2_extend 44 = .ok (.putfield 22, 3) := by decide +kernel
theorem dX2_extend_47 : decode cX2_extend 47 = .ok (.iconst 1, 1) := by decide +kernel
theorem dX2_extend_48 : decode cX2_extend 48 = .ok (.ireturn, 1) := by decide +kernel
theorem dX2_carryOver_0 : decode cX2_carryOver 0 = .ok (.iload_n 2, 1) := by decide +kernel
theorem dX2_carryOver_1 : decode cX2_carryOver 1 = .ok (.iconst 1, 1) := by decide +kernel
theorem dX2_carryOver_2 : decode cX2_carryOver 2 = .ok (.iadd, 1) := by decide +kernel
theorem dX2_carryOver_3 : decode cX2_carryOver 3 = .ok (.istore 4, 2) := by decide +kernel
theorem dX2_carryOver_5 : decode cX2_carryOver 5 = .ok (.iload 4, 2) := by decide +kernel
theorem dX2_carryOver_7 : decode cX2_carryOver 7 = .ok (.iload_n 3, 1) := by decide +kernel
theorem dX2_carryOver_8 : decode cX2_carryOver 8 = .ok (.if_icmp .gt 26, 3) := by decide +kernel
theorem dX2_carryOver_11 : decode cX2_carryOver 11 = .ok (.iload 4, 2) := by decide +kernel
theorem dX2_carryOver_13 : decode cX2_carryOver 13 = .ok (.bipush 6, 2) := by decide +kernel
theorem dX2_carryOver_15 : decode cX2_carryOver 15 = .ok (.if_icmp .ge 19, 3) := by decide +kernel
theorem dX2_carryOver_18 : decode cX2_carryOver 18 = .ok (.aload_n 0, 1) := by decide +kernel
theorem dX2_carryOver_19 : decode cX2_carryOver 19 = .ok (.iload 4, 2) := by decide +kernel
theorem dX2_carryOver_21 : decode cX2_carryOver 21 = .ok (.invokevirtual 30, 3) := by decide +kernel
theorem dX2_carryOver_24 : decode cX2_carryOver 24 = .ok (.aload_n 1, 1) := by decide +kernel
theorem dX2_carryOver_25 : decode cX2_carryOver 25 = .ok (.invokevirtual 38, 3) := by decide +kernel
theorem dX2_carryOver_28 : decode cX2_carryOver 28 = .ok (.iinc 4 1, 3) := by decide +kernel
theorem dX2_carryOver_31 : decode cX2_carryOver 31 = .ok (.goto (-26), 3) := by decide +kernel
theorem dX2_carryOver_34 : decode cX2_carryOver 34 = .ok (.return_, 1) := by decide +kernel
theorem dX3_init_0 : decode cX3_init 0 = .ok (.aload_n 0, 1) := by decide +kernel
theorem dX3_init_1 : decode cX3_init 1 = .ok (.invokespecial 3, 3) := by decide +kernel
theorem dX3_init_4 : decode cX3_init 4 = .ok (.aload_n 0, 1) := by decide +kernel
theorem dX3_init_5 : decode cX3_init 5 = .ok (.bipush 80, 2) := by decide +kernel
theorem dX3_init_7 : decode cX3_init 7 = .ok (.newarray .char, 2) := by decide +kernel
theorem dX3_init_9 : decode cX3_init 9 = .ok (.putfield 9, 3) := by decide +kernel
theorem dX3_init_12 : decode cX3_init 12 = .ok (.aload_n 0, 1) := by decide +kernel
theorem dX3_init_13 : decode cX3_init 13 = .ok (.new 15, 3) := by decide +kernel
theorem dX3_init_16 : decode cX3_init 16 = .ok (.dup, 1) := by decide +kernel
theorem dX3_init_17 : decode cX3_init 17 = .ok (.invokespecial 17, 3) := by decide +kernel
theorem dX3_init_20 : decode cX3_init 20 = .ok (.putfield 18, 3) := by decide +kernel
theorem dX3_init_23 : decode cX3_init 23 = .ok (.return_, 1) := by decide +kernel
theorem dX3_length_0 : decode cX3_length 0 = .ok (.aload_n 0, 1) := by decide +kernel
theorem dX3_length_1 : decode cX3_length 1 = .ok (.getfield 22, 3) := by decide +kernel
theorem dX3_length_4 : decode cX3_length 4 = .ok (.ireturn, 1) := by decide +kernel
theorem dX3_steps_0 : decode cX3_steps 0 = .ok (.aload_n 0, 1) := by decide +kernel
theorem dX3_steps_1 : decode cX3_steps 1 = .ok (.getfield 18, 3) := by decide +kernel
theorem dX3_steps_4 : decode cX3_steps 4 = .ok (.areturn, 1) := by decide +kernel
theorem dX3_clear_0 : decode cX3_clear 0 = .ok (.aload_n 0, 1) := by decide +kernel
theorem dX3_clear_1 : decode cX3_clear 1 = .ok (.iconst 0, 1) := by decide +kernel
theorem dX3_clear_2 : decode cX3_clear 2 = .ok (.putfield 22, 3) := by decide +kernel
theorem dX3_clear_5 : decode cX3_clear 5 = .ok (.return_, 1) := by decide +kernel
theorem dX3_append_0 : decode cX3_append 0 = .ok (.lload_n 1, 1) := by decide +kernel
theorem dX3_append_1 : decode cX3_append 1 = .ok (.invokestatic 26, 3) := by decide +kernel
theorem dX3_append_4 : decode cX3_append 4 = .ok (.istore_n 3, 1) := by decide +kernel
theorem dX3_append_5 : decode cX3_append 5 = .ok (.iload_n 3, 1) := by decide +kernel
theorem dX3_append_6 : decode cX3_append 6 = .ok (.ifCond .ne 6, 3) := by decide +kernel
theorem dX3_append_9 : decode cX3_append 9 = .ok (.bipush (-2), 2) := by decide +kernel
theorem dX3_append_11 : decode cX3_append 11 = .ok (.ireturn, 1) := by decide +kernel
theorem dX3_append_12 : decode cX3_append 12 = .ok (.aload_n 0, 1) := by decide +kernel
theorem dX3_append_13 : decode cX3_append 13 = .ok (.getfield 22, 3) := by decide +kernel
theorem dX3_append_16 : decode cX3_append 16 = .ok (.iload_n 3, 1) := by decide +kernel
theorem dX3_append_17 : decode cX3_append 17 = .ok (.iadd, 1) := by decide +kernel
theorem dX3_append_18 : decode cX3_append 18 = .ok (.bipush 80, 2) := by decide +kernel
theorem dX3_append_20 : decode cX3_append 20 = .ok (.if_icmp .le 6, 3) := by decide +kernel
theorem dX3_append_23 : decode cX3_append 23 = .ok (.bipush (-4), 2) := by decide +kernel
theorem dX3_append_25 : decode cX3_append 25 = .ok (.ireturn, 1) := by decide +kernel
theorem dX3_append_26 : decode cX3_append 26 = .ok (.iload_n 3, 1) := by decide +kernel
theorem dX3_append_27 : decode cX3_append 27 = .ok (.iconst 1, 1) := by decide +kernel
theorem dX3_append_28 : decode cX3_append 28 = .ok (.isub, 1) := by decide +kernel
theorem dX3_append_29 : decode cX3_append 29 = .ok (.istore 4, 2) := by decide +kernel
theorem dX3_append_31 : decode cX3_append 31 = .ok (.iload 4, 2) := by decide +kernel
theorem dX3_append_33 : decode cX3_append 33 = .ok (.ifCond .lt 50, 3) := by decide +kernel
theorem dX3_append_36 : decode cX3_append 36 = .ok (.aload_n 0, 1) := by decide +kernel
theorem dX3_append_37 : decode cX3_append 37 = .ok (.getfield 22, 3) := by decide +kernel
theorem dX3_append_40 : decode cX3_append 40 = .ok (.bipush 80, 2) := by decide +kernel
theorem dX3_append_42 : decode cX3_append 42 = .ok (.if_icmp .ge 41, 3) := by decide +kernel
theorem dX3_append_45 : decode cX3_append 45 = .ok (.aload_n 0, 1) := by decide +kernel
theorem dX3_append_46 : decode cX3_append 46 = .ok (.getfield 9, 3) := by decide +kernel
theorem dX3_append_49 : decode cX3_append 49 = .ok (.aload_n 0, 1) := by decide +kernel
theorem dX3_append_50 : decode cX3_append 50 = .ok (.getfield 22, 3) := by decide +kernel
theorem dX3_append_53 : decode cX3_append 53 = .ok (.lload_n 1, 1) := by decide +kernel
theorem dX3_append_54 : decode cX3_append 54 = .ok (.bipush 8, 2) := by decide +kernel
theorem dX3_append_56 : decode cX3_append 56 = .ok (.iload 4, 2) := by decide +kernel
theorem dX3_append_58 : decode cX3_append 58 = .ok (.imul, 1) := by decide +kernel
theorem dX3_append_59 : decode cX3_append 59 = .ok (.lushr, 1) := by decide +kernel
theorem dX3_append_60 : decode cX3_append 60 = .ok (.ldc2_w 30, 3) := by decide +kernel
theorem dX3_append_63 : decode cX3_append 63 = .ok (.land, 1) := by decide +kernel
theorem dX3_append_64 : decode cX3_append 64 = .ok (.l2i, 1) := by decide +kernel
theorem dX3_append_65 : decode cX3_append 65 = .ok (.i2c, 1) := by decide +kernel
theorem dX3_append_66 : decode cX3_append 66 = .ok (.castore, 1) := by decide +kernel
theorem dX3_append_67 : decode cX3_append 67 = .ok (.aload_n 0, 1) := by decide +kernel
theorem dX3_append_68 : decode cX3_append 68 = .ok (.dup, 1) := by decide +kernel
theorem dX3_append_69 : decode cX3_append 69 = .ok (.getfield 22, 3) := by decide +kernel
theorem dX3_append_72 : decode cX3_append 72 = .ok (.iconst 1, 1) := by decide +kernel
theorem dX3_append_73 : decode cX3_append 73 = .ok (.iadd, 1) := by decide +kernel
theorem dX3_append_74 : decode cX3_append 74 = .ok (.putfield 22, 3) := by decide +kernel
theorem dX3_append_77 : decode cX3_append 77 = .ok (.iinc 4 (-1), 3) := by decide +kernel
theorem dX3_append_80 : decode cX3_append 80 = .ok (.goto (-49), 3) := by decide +kernel
theorem dX3_append_83 : decode cX3_append 83 = .ok (.aload_n 0, 1) := by decide +kernel
theorem dX3_append_84 : decode cX3_append 84 = .ok (.getfield 22, 3) := by decide +kernel
theorem dX3_append_87 : decode cX3_append 87 = .ok (.ireturn, 1) := by decide +kernel
theorem dX3_countCharacters_0 : decode cX3_countCharacters 0 = .ok (.lload_n 0, 1) := by decide +kernel
theorem dX3_countCharacters_1 : decode cX3_countCharacters 1 = .ok (.lstore_n 2, 1) := by decide +kernel
theorem dX3_countCharacters_2 : decode cX3_countCharacters 2 = .ok (.iconst 0, 1) := by decide +kernel
theorem dX3_countCharacters_3 : decode cX3_countCharacters 3 = .ok (.istore 4, 2) := by decide +kernel
theorem dX3_countCharacters_5 : decode cX3_countCharacters 5 = .ok (.lload_n 2, 1) := by decide +kernel
theorem dX3_countCharacters_6 : decode cX3_countCharacters 6 = .ok (.lconst 0, 1) := by decide +kernel
theorem dX3_countCharacters_7 : decode cX3_countCharacters 7 = .ok (.lcmp, 1) := by decide +kernel
theorem dX3_countCharacters_8 : decode cX3_countCharacters 8 = .ok (.ifCond .eq 48, 3) := by decide +kernel
theorem dX3_countCharacters_11 : decode cX3_countCharacters 11 = .ok (.iload 4, 2) := by decide +kernel
theorem dX3_countCharacters_13 : decode cX3_countCharacters 13 = .ok (.bipush 8, 2) := by decide +kernel
theorem dX3_countCharacters_15 : decode cX3_countCharacters 15 = .ok (.if_icmp .ge 41, 3) := by decide +kernel
theorem dX3_countCharacters_18 : decode cX3_countCharacters 18 = .ok (.lload_n 2, 1) := by decide +kernel
theorem dX3_countCharacters_19 : decode cX3_countCharacters 19 = .ok (.ldc2_w 30, 3) := by decide +kernel
theorem dX3_countCharacters_22 : decode cX3_countCharacters 22 = .ok (.land, 1) := by decide +kernel
theorem dX3_countCharacters_23 : decode cX3_countCharacters 23 = .ok (.lstore 5, 2) := by decide +kernel
theorem dX3_countCharacters_25 : decode cX3_countCharacters 25 = .ok (.lload 5, 2) := by decide +kernel
theorem dX3_countCharacters_27 : decode cX3_countCharacters 27 = .ok (.ldc2_w 32, 3) := by decide +kernel
theorem dX3_countCharacters_30 : decode cX3_countCharacters 30 = .ok (.lcmp, 1) := by decide +kernel
theorem dX3_countCharacters_31 : decode cX3_countCharacters 31 = .ok (.ifCond .lt 12, 3) := by decide +kernel
theorem dX3_countCharacters_34 : decode cX3_countCharacters 34 = .ok (.lload 5, 2) := by decide +kernel
theorem dX3_countCharacters_36 : decode cX3_countCharacters 36 = .ok (.ldc2_w 34, 3) := by decide +kernel
theorem dX3_countCharacters_39 : decode cX3_countCharacters 39 = .ok (.lcmp, 1) := by decide +kernel
theorem dX3_countCharacters_40 : decode cX3_countCharacters 40 = .ok (.ifCond .le 5, 3) := by decide +kernel
theorem dX3_countCharacters_43 : decode cX3_countCharacters 43 = .ok (.iconst 0, 1) := by decide +kernel
theorem dX3_countCharacters_44 : decode cX3_countCharacters 44 = .ok (.ireturn, 1) := by decide +kernel
theorem dX3_countCharacters_45 : decode cX3_countCharacters 45 = .ok (.lload_n 2, 1) := by decide +kernel
