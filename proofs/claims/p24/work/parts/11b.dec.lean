theorem dX3_countCharacters_46 : decode cX3_countCharacters 46 = .ok (.bipush 8, 2) := by decide +kernel
theorem dX3_countCharacters_48 : decode cX3_countCharacters 48 = .ok (.lushr, 1) := by decide +kernel
theorem dX3_countCharacters_49 : decode cX3_countCharacters 49 = .ok (.lstore_n 2, 1) := by decide +kernel
theorem dX3_countCharacters_50 : decode cX3_countCharacters 50 = .ok (.iinc 4 1, 3) := by decide +kernel
theorem dX3_countCharacters_53 : decode cX3_countCharacters 53 = .ok (.goto (-48), 3) := by decide +kernel
theorem dX3_countCharacters_56 : decode cX3_countCharacters 56 = .ok (.iload 4, 2) := by decide +kernel
theorem dX3_countCharacters_58 : decode cX3_countCharacters 58 = .ok (.ireturn, 1) := by decide +kernel
theorem dX3_read_0 : decode cX3_read 0 = .ok (.aload_n 0, 1) := by decide +kernel
theorem dX3_read_1 : decode cX3_read 1 = .ok (.iconst 0, 1) := by decide +kernel
theorem dX3_read_2 : decode cX3_read 2 = .ok (.putfield 36, 3) := by decide +kernel
theorem dX3_read_5 : decode cX3_read 5 = .ok (.aload_n 0, 1) := by decide +kernel
theorem dX3_read_6 : decode cX3_read 6 = .ok (.getfield 18, 3) := by decide +kernel
theorem dX3_read_9 : decode cX3_read 9 = .ok (.invokevirtual 39, 3) := by decide +kernel
theorem dX3_read_12 : decode cX3_read 12 = .ok (.iconst 0, 1) := by decide +kernel
theorem dX3_read_13 : decode cX3_read 13 = .ok (.istore_n 1, 1) := by decide +kernel
theorem dX3_read_14 : decode cX3_read 14 = .ok (.iload_n 1, 1) := by decide +kernel
theorem dX3_read_15 : decode cX3_read 15 = .ok (.bipush 27, 2) := by decide +kernel
theorem dX3_read_17 : decode cX3_read 17 = .ok (.if_icmp .ge 49, 3) := by decide +kernel
theorem dX3_read_20 : decode cX3_read 20 = .ok (.aload_n 0, 1) := by decide +kernel
theorem dX3_read_21 : decode cX3_read 21 = .ok (.invokevirtual 42, 3) := by decide +kernel
theorem dX3_read_24 : decode cX3_read 24 = .ok (.ifCond .ne 8, 3) := by decide +kernel
theorem dX3_read_27 : decode cX3_read 27 = .ok (.aload_n 0, 1) := by decide +kernel
theorem dX3_read_28 : decode cX3_read 28 = .ok (.getfield 36, 3) := by decide +kernel
theorem dX3_read_31 : decode cX3_read 31 = .ok (.ireturn, 1) := by decide +kernel
theorem dX3_read_32 : decode cX3_read 32 = .ok (.aload_n 0, 1) := by decide +kernel
theorem dX3_read_33 : decode cX3_read 33 = .ok (.getfield 36, 3) := by decide +kernel
theorem dX3_read_36 : decode cX3_read 36 = .ok (.aload_n 0, 1) := by decide +kernel
theorem dX3_read_37 : decode cX3_read 37 = .ok (.getfield 22, 3) := by decide +kernel
theorem dX3_read_40 : decode cX3_read 40 = .ok (.if_icmp .lt 6, 3) := by decide +kernel
theorem dX3_read_43 : decode cX3_read 43 = .ok (.bipush (-6), 2) := by decide +kernel
theorem dX3_read_45 : decode cX3_read 45 = .ok (.ireturn, 1) := by decide +kernel
theorem dX3_read_46 : decode cX3_read 46 = .ok (.aload_n 0, 1) := by decide +kernel
theorem dX3_read_47 : decode cX3_read 47 = .ok (.bipush 44, 2) := by decide +kernel
theorem dX3_read_49 : decode cX3_read 49 = .ok (.invokevirtual 46, 3) := by decide +kernel
theorem dX3_read_52 : decode cX3_read 52 = .ok (.ifCond .ne 8, 3) := by decide +kernel
theorem dX3_read_55 : decode cX3_read 55 = .ok (.aload_n 0, 1) := by decide +kernel
theorem dX3_read_56 : decode cX3_read 56 = .ok (.getfield 36, 3) := by decide +kernel
theorem dX3_read_59 : decode cX3_read 59 = .ok (.ireturn, 1) := by decide +kernel
theorem dX3_read_60 : decode cX3_read 60 = .ok (.iinc 1 1, 3) := by decide +kernel
theorem dX3_read_63 : decode cX3_read 63 = .ok (.goto (-49), 3) := by decide +kernel
theorem dX3_read_66 : decode cX3_read 66 = .ok (.aload_n 0, 1) := by decide +kernel
theorem dX3_read_67 : decode cX3_read 67 = .ok (.getfield 36, 3) := by decide +kernel
theorem dX3_read_70 : decode cX3_read 70 = .ok (.ireturn, 1) := by decide +kernel
theorem dX3_readStep_0 : decode cX3_readStep 0 = .ok (.aload_n 0, 1) := by decide +kernel
theorem dX3_readStep_1 : decode cX3_readStep 1 = .ok (.bipush 43, 2) := by decide +kernel
theorem dX3_readStep_3 : decode cX3_readStep 3 = .ok (.invokevirtual 46, 3) := by decide +kernel
theorem dX3_readStep_6 : decode cX3_readStep 6 = .ok (.ifCond .eq 8, 3) := by decide +kernel
theorem dX3_readStep_9 : decode cX3_readStep 9 = .ok (.aload_n 0, 1) := by decide +kernel
theorem dX3_readStep_10 : decode cX3_readStep 10 = .ok (.invokevirtual 50, 3) := by decide +kernel
theorem dX3_readStep_13 : decode cX3_readStep 13 = .ok (.ireturn, 1) := by decide +kernel
theorem dX3_readStep_14 : decode cX3_readStep 14 = .ok (.aload_n 0, 1) := by decide +kernel
theorem dX3_readStep_15 : decode cX3_readStep 15 = .ok (.bipush 45, 2) := by decide +kernel
theorem dX3_readStep_17 : decode cX3_readStep 17 = .ok (.invokevirtual 46, 3) := by decide +kernel
theorem dX3_readStep_20 : decode cX3_readStep 20 = .ok (.ifCond .eq 11, 3) := by decide +kernel
theorem dX3_readStep_23 : decode cX3_readStep 23 = .ok (.aload_n 0, 1) := by decide +kernel
theorem dX3_readStep_24 : decode cX3_readStep 24 = .ok (.iconst 1, 1) := by decide +kernel
theorem dX3_readStep_25 : decode cX3_readStep 25 = .ok (.bipush (-6), 2) := by decide +kernel
theorem dX3_readStep_27 : decode cX3_readStep 27 = .ok (.invokevirtual 53, 3) := by decide +kernel
theorem dX3_readStep_30 : decode cX3_readStep 30 = .ok (.ireturn, 1) := by decide +kernel
theorem dX3_readStep_31 : decode cX3_readStep 31 = .ok (.aload_n 0, 1) := by decide +kernel
theorem dX3_readStep_32 : decode cX3_readStep 32 = .ok (.invokevirtual 57, 3) := by decide +kernel
theorem dX3_readStep_35 : decode cX3_readStep 35 = .ok (.istore_n 1, 1) := by decide +kernel
theorem dX3_readStep_36 : decode cX3_readStep 36 = .ok (.iload_n 1, 1) := by decide +kernel
theorem dX3_readStep_37 : decode cX3_readStep 37 = .ok (.bipush (-6), 2) := by decide +kernel
theorem dX3_readStep_39 : decode cX3_readStep 39 = .ok (.if_icmp .ne 5, 3) := by decide +kernel
theorem dX3_readStep_42 : decode cX3_readStep 42 = .ok (.iconst 0, 1) := by decide +kernel
theorem dX3_readStep_43 : decode cX3_readStep 43 = .ok (.ireturn, 1) := by decide +kernel
theorem dX3_readStep_44 : decode cX3_readStep 44 = .ok (.aload_n 0, 1) := by decide +kernel
theorem dX3_readStep_45 : decode cX3_readStep 45 = .ok (.bipush 62, 2) := by decide +kernel
theorem dX3_readStep_47 : decode cX3_readStep 47 = .ok (.invokevirtual 46, 3) := by decide +kernel
theorem dX3_readStep_50 : decode cX3_readStep 50 = .ok (.ifCond .eq 10, 3) := by decide +kernel
theorem dX3_readStep_53 : decode cX3_readStep 53 = .ok (.aload_n 0, 1) := by decide +kernel
theorem dX3_readStep_54 : decode cX3_readStep 54 = .ok (.iconst 2, 1) := by decide +kernel
theorem dX3_readStep_55 : decode cX3_readStep 55 = .ok (.iload_n 1, 1) := by decide +kernel
theorem dX3_readStep_56 : decode cX3_readStep 56 = .ok (.invokevirtual 53, 3) := by decide +kernel
theorem dX3_readStep_59 : decode cX3_readStep 59 = .ok (.ireturn, 1) := by decide +kernel
theorem dX3_readStep_60 : decode cX3_readStep 60 = .ok (.aload_n 0, 1) := by decide +kernel
theorem dX3_readStep_61 : decode cX3_readStep 61 = .ok (.bipush 42, 2) := by decide +kernel
theorem dX3_readStep_63 : decode cX3_readStep 63 = .ok (.invokevirtual 46, 3) := by decide +kernel
theorem dX3_readStep_66 : decode cX3_readStep 66 = .ok (.ifCond .eq 10, 3) := by decide +kernel
theorem dX3_readStep_69 : decode cX3_readStep 69 = .ok (.aload_n 0, 1) := by decide +kernel
theorem dX3_readStep_70 : decode cX3_readStep 70 = .ok (.iconst 3, 1) := by decide +kernel
theorem dX3_readStep_71 : decode cX3_readStep 71 = .ok (.iload_n 1, 1) := by decide +kernel
theorem dX3_readStep_72 : decode cX3_readStep 72 = .ok (.invokevirtual 61, 3) := by decide +kernel
theorem dX3_readStep_75 : decode cX3_readStep 75 = .ok (.ireturn, 1) := by decide +kernel
theorem dX3_readStep_76 : decode cX3_readStep 76 = .ok (.aload_n 0, 1) := by decide +kernel
theorem dX3_readStep_77 : decode cX3_readStep 77 = .ok (.bipush 47, 2) := by decide +kernel
theorem dX3_readStep_79 : decode cX3_readStep 79 = .ok (.invokevirtual 46, 3) := by decide +kernel
theorem dX3_readStep_82 : decode cX3_readStep 82 = .ok (.ifCond .eq 10, 3) := by decide +kernel
theorem dX3_readStep_85 : decode cX3_readStep 85 = .ok (.aload_n 0, 1) := by decide +kernel
theorem dX3_readStep_86 : decode cX3_readStep 86 = .ok (.iconst 4, 1) := by decide +kernel
theorem dX3_readStep_87 : decode cX3_readStep 87 = .ok (.iload_n 1, 1) := by decide +kernel
theorem dX3_readStep_88 : decode cX3_readStep 88 = .ok (.invokevirtual 61, 3) := by decide +kernel
theorem dX3_readStep_91 : decode cX3_readStep 91 = .ok (.ireturn, 1) := by decide +kernel
theorem dX3_readStep_92 : decode cX3_readStep 92 = .ok (.aload_n 0, 1) := by decide +kernel
theorem dX3_readStep_93 : decode cX3_readStep 93 = .ok (.bipush 60, 2) := by decide +kernel
theorem dX3_readStep_95 : decode cX3_readStep 95 = .ok (.invokevirtual 46, 3) := by decide +kernel
theorem dX3_readStep_98 : decode cX3_readStep 98 = .ok (.ifCond .eq 15, 3) := by decide +kernel
theorem dX3_readStep_101 : decode cX3_readStep 101 = .ok (.aload_n 0, 1) := by decide +kernel
theorem dX3_readStep_102 : decode cX3_readStep 102 = .ok (.iload_n 1, 1) := by decide +kernel
theorem dX3_readStep_103 : decode cX3_readStep 103 = .ok (.invokevirtual 64, 3) := by decide +kernel
theorem dX3_readStep_106 : decode cX3_readStep 106 = .ok (.ifCond .eq 7, 3) := by decide +kernel
theorem dX3_readStep_109 : decode cX3_readStep 109 = .ok (.iconst 1, 1) := by decide +kernel
theorem dX3_readStep_110 : decode cX3_readStep 110 = .ok (.goto 4, 3) := by decide +kernel
theorem dX3_readStep_113 : decode cX3_readStep 113 = .ok (.iconst 0, 1) := by decide +kernel
theorem dX3_readStep_114 : decode cX3_readStep 114 = .ok (.ireturn, 1) := by decide +kernel
theorem dX3_readAdding_0 : decode cX3_readAdding 0 = .ok (.aload_n 0, 1) := by decide +kernel
theorem dX3_readAdding_1 : decode cX3_readAdding 1 = .ok (.invokevirtual 57, 3) := by decide +kernel
theorem dX3_readAdding_4 : decode cX3_readAdding 4 = .ok (.istore_n 1, 1) := by decide +kernel
theorem dX3_readAdding_5 : decode cX3_readAdding 5 = .ok (.iload_n 1, 1) := by decide +kernel
theorem dX3_readAdding_6 : decode cX3_readAdding 6 = .ok (.bipush (-6), 2) := by decide +kernel
theorem dX3_readAdding_8 : decode cX3_readAdding 8 = .ok (.if_icmp .ne 5, 3) := by decide +kernel
theorem dX3_readAdding_11 : decode cX3_readAdding 11 = .ok (.iconst 0, 1) := by decide +kernel
theorem dX3_readAdding_12 : decode cX3_readAdding 12 = .ok (.ireturn, 1) := by decide +kernel
theorem dX3_readAdding_13 : decode cX3_readAdding 13 = .ok (.aload_n 0, 1) := by decide +kernel
theorem dX3_readAdding_14 : decode cX3_readAdding 14 = .ok (.invokevirtual 68, 3) := by decide +kernel
theorem dX3_readAdding_17 : decode cX3_readAdding 17 = .ok (.istore_n 2, 1) := by decide +kernel
theorem dX3_readAdding_18 : decode cX3_readAdding 18 = .ok (.iload_n 2, 1) := by decide +kernel
theorem dX3_readAdding_19 : decode cX3_readAdding 19 = .ok (.bipush (-6), 2) := by decide +kernel
theorem dX3_readAdding_21 : decode cX3_readAdding 21 = .ok (.if_icmp .eq 12, 3) := by decide +kernel
theorem dX3_readAdding_24 : decode cX3_readAdding 24 = .ok (.aload_n 0, 1) := by decide +kernel
theorem dX3_readAdding_25 : decode cX3_readAdding 25 = .ok (.bipush 61, 2) := by decide +kernel
theorem dX3_readAdding_27 : decode cX3_readAdding 27 = .ok (.invokevirtual 46, 3) := by decide +kernel
theorem dX3_readAdding_30 : decode cX3_readAdding 30 = .ok (.ifCond .ne 5, 3) := by decide +kernel
theorem dX3_readAdding_33 : decode cX3_readAdding 33 = .ok (.iconst 0, 1) := by decide +kernel
theorem dX3_readAdding_34 : decode cX3_readAdding 34 = .ok (.ireturn, 1) := by decide +kernel
theorem dX3_readAdding_35 : decode cX3_readAdding 35 = .ok (.aload_n 0, 1) := by decide +kernel
theorem dX3_readAdding_36 : decode cX3_readAdding 36 = .ok (.invokevirtual 68, 3) := by decide +kernel
theorem dX3_readAdding_39 : decode cX3_readAdding 39 = .ok (.istore_n 3, 1) := by decide +kernel
theorem dX3_readAdding_40 : decode cX3_readAdding 40 = .ok (.iload_n 3, 1) := by decide +kernel
theorem dX3_readAdding_41 : decode cX3_readAdding 41 = .ok (.bipush (-6), 2) := by decide +kernel
theorem dX3_readAdding_43 : decode cX3_readAdding 43 = .ok (.if_icmp .ne 5, 3) := by decide +kernel
theorem dX3_readAdding_46 : decode cX3_readAdding 46 = .ok (.iconst 0, 1) := by decide +kernel
theorem dX3_readAdding_47 : decode cX3_readAdding 47 = .ok (.ireturn, 1) := by decide +kernel
theorem dX3_readAdding_48 : decode cX3_readAdding 48 = .ok (.aload_n 0, 1) := by decide +kernel
theorem dX3_readAdding_49 : decode cX3_readAdding 49 = .ok (.getfield 18, 3) := by decide +kernel
theorem dX3_readAdding_52 : decode cX3_readAdding 52 = .ok (.iconst 0, 1) := by decide +kernel
theorem dX3_readAdding_53 : decode cX3_readAdding 53 = .ok (.iload_n 1, 1) := by decide +kernel
theorem dX3_readAdding_54 : decode cX3_readAdding 54 = .ok (.iload_n 2, 1) := by decide +kernel
theorem dX3_readAdding_55 : decode cX3_readAdding 55 = .ok (.iload_n 3, 1) := by decide +kernel
theorem dX3_readAdding_56 : decode cX3_readAdding 56 = .ok (.invokevirtual 71, 3) := by decide +kernel
theorem dX3_readAdding_59 : decode cX3_readAdding 59 = .ok (.iconst 1, 1) := by decide +kernel
theorem dX3_readAdding_60 : decode cX3_readAdding 60 = .ok (.ireturn, 1) := by decide +kernel
theorem dX3_readNewName_0 : decode cX3_readNewName 0 = .ok (.aload_n 0, 1) := by decide +kernel
theorem dX3_readNewName_1 : decode cX3_readNewName 1 = .ok (.invokevirtual 57, 3) := by decide +kernel
theorem dX3_readNewName_4 : decode cX3_readNewName 4 = .ok (.istore_n 3, 1) := by decide +kernel
theorem dX3_readNewName_5 : decode cX3_readNewName 5 = .ok (.iload_n 3, 1) := by decide +kernel
theorem dX3_readNewName_6 : decode cX3_readNewName 6 = .ok (.bipush (-6), 2) := by decide +kernel
theorem dX3_readNewName_8 : decode cX3_readNewName 8 = .ok (.if_icmp .ne 5, 3) := by decide +kernel
theorem dX3_readNewName_11 : decode cX3_readNewName 11 = .ok (.iconst 0, 1) := by decide +kernel
theorem dX3_readNewName_12 : decode cX3_readNewName 12 = .ok (.ireturn, 1) := by decide +kernel
theorem dX3_readNewName_13 : decode cX3_readNewName 13 = .ok (.iload_n 1, 1) := by decide +kernel
theorem dX3_readNewName_14 : decode cX3_readNewName 14 = .ok (.iconst 1, 1) := by decide +kernel
theorem dX3_readNewName_15 : decode cX3_readNewName 15 = .ok (.if_icmp .ne 17, 3) := by decide +kernel
theorem dX3_readNewName_18 : decode cX3_readNewName 18 = .ok (.aload_n 0, 1) := by decide +kernel
theorem dX3_readNewName_19 : decode cX3_readNewName 19 = .ok (.getfield 18, 3) := by decide +kernel
theorem dX3_readNewName_22 : decode cX3_readNewName 22 = .ok (.iconst 1, 1) := by decide +kernel
theorem dX3_readNewName_23 : decode cX3_readNewName 23 = .ok (.iload_n 3, 1) := by decide +kernel
theorem dX3_readNewName_24 : decode cX3_readNewName 24 = .ok (.iconst 0, 1) := by decide +kernel
theorem dX3_readNewName_25 : decode cX3_readNewName 25 = .ok (.iconst 0, 1) := by decide +kernel
theorem dX3_readNewName_26 : decode cX3_readNewName 26 = .ok (.invokevirtual 71, 3) := by decide +kernel
theorem dX3_readNewName_29 : decode cX3_readNewName 29 = .ok (.goto 14, 3) := by decide +kernel
theorem dX3_readNewName_32 : decode cX3_readNewName 32 = .ok (.aload_n 0, 1) := by decide +kernel
theorem dX3_readNewName_33 : decode cX3_readNewName 33 = .ok (.getfield 18, 3) := by decide +kernel
theorem dX3_readNewName_36 : decode cX3_readNewName 36 = .ok (.iconst 2, 1) := by decide +kernel
theorem dX3_readNewName_37 : decode cX3_readNewName 37 = .ok (.iload_n 2, 1) := by decide +kernel
theorem dX3_readNewName_38 : decode cX3_readNewName 38 = .ok (.iload_n 3, 1) := by decide +kernel
theorem dX3_readNewName_39 : decode cX3_readNewName 39 = .ok (.iconst 0, 1) := by decide +kernel
theorem dX3_readNewName_40 : decode cX3_readNewName 40 = .ok (.invokevirtual 71, 3) := by decide +kernel
theorem dX3_readNewName_43 : decode cX3_readNewName 43 = .ok (.iconst 1, 1) := by decide +kernel
theorem dX3_readNewName_44 : decode cX3_readNewName 44 = .ok (.ireturn, 1) := by decide +kernel
theorem dX3_readFactor_0 : decode cX3_readFactor 0 = .ok (.aload_n 0, 1) := by decide +kernel
theorem dX3_readFactor_1 : decode cX3_readFactor 1 = .ok (.iconst 2, 1) := by decide +kernel
theorem dX3_readFactor_2 : decode cX3_readFactor 2 = .ok (.bipush 9, 2) := by decide +kernel
theorem dX3_readFactor_4 : decode cX3_readFactor 4 = .ok (.invokevirtual 75, 3) := by decide +kernel
theorem dX3_readFactor_7 : decode cX3_readFactor 7 = .ok (.istore_n 3, 1) := by decide +kernel
theorem dX3_readFactor_8 : decode cX3_readFactor 8 = .ok (.iload_n 3, 1) := by decide +kernel
theorem dX3_readFactor_9 : decode cX3_readFactor 9 = .ok (.bipush (-6), 2) := by decide +kernel
theorem dX3_readFactor_11 : decode cX3_readFactor 11 = .ok (.if_icmp .ne 5, 3) := by decide +kernel
theorem dX3_readFactor_14 : decode cX3_readFactor 14 = .ok (.iconst 0, 1) := by decide +kernel
theorem dX3_readFactor_15 : decode cX3_readFactor 15 = .ok (.ireturn, 1) := by decide +kernel
theorem dX3_readFactor_16 : decode cX3_readFactor 16 = .ok (.aload_n 0, 1) := by decide +kernel
theorem dX3_readFactor_17 : decode cX3_readFactor 17 = .ok (.getfield 18, 3) := by decide +kernel
theorem dX3_readFactor_20 : decode cX3_readFactor 20 = .ok (.iload_n 1, 1) := by decide +kernel
theorem dX3_readFactor_21 : decode cX3_readFactor 21 = .ok (.iload_n 2, 1) := by decide +kernel
theorem dX3_readFactor_22 : decode cX3_readFactor 22 = .ok (.iload_n 3, 1) := by decide +kernel
theorem dX3_readFactor_23 : decode cX3_readFactor 23 = .ok (.iconst 0, 1) := by decide +kernel
theorem dX3_readFactor_24 : decode cX3_readFactor 24 = .ok (.invokevirtual 71, 3) := by decide +kernel
theorem dX3_readFactor_27 : decode cX3_readFactor 27 = .ok (.iconst 1, 1) := by decide +kernel
theorem dX3_readFactor_28 : decode cX3_readFactor 28 = .ok (.ireturn, 1) := by decide +kernel
theorem dX3_readLimit_0 : decode cX3_readLimit 0 = .ok (.aload_n 0, 1) := by decide +kernel
theorem dX3_readLimit_1 : decode cX3_readLimit 1 = .ok (.invokevirtual 68, 3) := by decide +kernel
theorem dX3_readLimit_4 : decode cX3_readLimit 4 = .ok (.istore_n 2, 1) := by decide +kernel
theorem dX3_readLimit_5 : decode cX3_readLimit 5 = .ok (.iload_n 2, 1) := by decide +kernel
theorem dX3_readLimit_6 : decode cX3_readLimit 6 = .ok (.bipush (-6), 2) := by decide +kernel
theorem dX3_readLimit_8 : decode cX3_readLimit 8 = .ok (.if_icmp .ne 5, 3) := by decide +kernel
theorem dX3_readLimit_11 : decode cX3_readLimit 11 = .ok (.iconst 0, 1) := by decide +kernel
theorem dX3_readLimit_12 : decode cX3_readLimit 12 = .ok (.ireturn, 1) := by decide +kernel
theorem dX3_readLimit_13 : decode cX3_readLimit 13 = .ok (.aload_n 0, 1) := by decide +kernel
theorem dX3_readLimit_14 : decode cX3_readLimit 14 = .ok (.getfield 18, 3) := by decide +kernel
theorem dX3_readLimit_17 : decode cX3_readLimit 17 = .ok (.iconst 5, 1) := by decide +kernel
theorem dX3_readLimit_18 : decode cX3_readLimit 18 = .ok (.iload_n 1, 1) := by decide +kernel
theorem dX3_readLimit_19 : decode cX3_readLimit 19 = .ok (.iload_n 2, 1) := by decide +kernel
theorem dX3_readLimit_20 : decode cX3_readLimit 20 = .ok (.iconst 0, 1) := by decide +kernel
theorem dX3_readLimit_21 : decode cX3_readLimit 21 = .ok (.invokevirtual 71, 3) := by decide +kernel
theorem dX3_readLimit_24 : decode cX3_readLimit 24 = .ok (.iconst 1, 1) := by decide +kernel
theorem dX3_readLimit_25 : decode cX3_readLimit 25 = .ok (.ireturn, 1) := by decide +kernel
theorem dX3_readNumber_0 : decode cX3_readNumber 0 = .ok (.aload_n 0, 1) := by decide +kernel
theorem dX3_readNumber_1 : decode cX3_readNumber 1 = .ok (.iconst 0, 1) := by decide +kernel
theorem dX3_readNumber_2 : decode cX3_readNumber 2 = .ok (.bipush 9, 2) := by decide +kernel
theorem dX3_readNumber_4 : decode cX3_readNumber 4 = .ok (.invokevirtual 75, 3) := by decide +kernel
theorem dX3_readNumber_7 : decode cX3_readNumber 7 = .ok (.istore_n 1, 1) := by decide +kernel
theorem dX3_readNumber_8 : decode cX3_readNumber 8 = .ok (.iconst 0, 1) := by decide +kernel
theorem dX3_readNumber_9 : decode cX3_readNumber 9 = .ok (.istore_n 2, 1) := by decide +kernel
theorem dX3_readNumber_10 : decode cX3_readNumber 10 = .ok (.iload_n 2, 1) := by decide +kernel
theorem dX3_readNumber_11 : decode cX3_readNumber 11 = .ok (.iconst 2, 1) := by decide +kernel
theorem dX3_readNumber_12 : decode cX3_readNumber 12 = .ok (.if_icmp .ge 47, 3) := by decide +kernel
theorem dX3_readNumber_15 : decode cX3_readNumber 15 = .ok (.iload_n 1, 1) := by decide +kernel
theorem dX3_readNumber_16 : decode cX3_readNumber 16 = .ok (.ifCond .le 43, 3) := by decide +kernel
theorem dX3_readNumber_19 : decode cX3_readNumber 19 = .ok (.aload_n 0, 1) := by decide +kernel
theorem dX3_readNumber_20 : decode cX3_readNumber 20 = .ok (.iconst 0, 1) := by decide +kernel
theorem dX3_readNumber_21 : decode cX3_readNumber 21 = .ok (.bipush 9, 2) := by decide +kernel
theorem dX3_readNumber_23 : decode cX3_readNumber 23 = .ok (.sipush 255, 3) := by decide +kernel
theorem dX3_readNumber_26 : decode cX3_readNumber 26 = .ok (.bipush 10, 2) := by decide +kernel
theorem dX3_readNumber_28 : decode cX3_readNumber 28 = .ok (.iload_n 1, 1) := by decide +kernel
theorem dX3_readNumber_29 : decode cX3_readNumber 29 = .ok (.imul, 1) := by decide +kernel
theorem dX3_readNumber_30 : decode cX3_readNumber 30 = .ok (.isub, 1) := by decide +kernel
theorem dX3_readNumber_31 : decode cX3_readNumber 31 = .ok (.invokestatic 79, 3) := by decide +kernel
theorem dX3_readNumber_34 : decode cX3_readNumber 34 = .ok (.invokevirtual 75, 3) := by decide +kernel
theorem dX3_readNumber_37 : decode cX3_readNumber 37 = .ok (.istore_n 3, 1) := by decide +kernel
theorem dX3_readNumber_38 : decode cX3_readNumber 38 = .ok (.iload_n 3, 1) := by decide +kernel
theorem dX3_readNumber_39 : decode cX3_readNumber 39 = .ok (.bipush (-6), 2) := by decide +kernel
theorem dX3_readNumber_41 : decode cX3_readNumber 41 = .ok (.if_icmp .ne 5, 3) := by decide +kernel
theorem dX3_readNumber_44 : decode cX3_readNumber 44 = .ok (.iload_n 1, 1) := by decide +kernel
theorem dX3_readNumber_45 : decode cX3_readNumber 45 = .ok (.ireturn, 1) := by decide +kernel
theorem dX3_readNumber_46 : decode cX3_readNumber 46 = .ok (.bipush 10, 2) := by decide +kernel
theorem dX3_readNumber_48 : decode cX3_readNumber 48 = .ok (.iload_n 1, 1) := by decide +kernel
theorem dX3_readNumber_49 : decode cX3_readNumber 49 = .ok (.imul, 1) := by decide +kernel
theorem dX3_readNumber_50 : decode cX3_readNumber 50 = .ok (.iload_n 3, 1) := by decide +kernel
theorem dX3_readNumber_51 : decode cX3_readNumber 51 = .ok (.iadd, 1) := by decide +kernel
theorem dX3_readNumber_52 : decode cX3_readNumber 52 = .ok (.istore_n 1, 1) := by decide +kernel
theorem dX3_readNumber_53 : decode cX3_readNumber 53 = .ok (.iinc 2 1, 3) := by decide +kernel
theorem dX3_readNumber_56 : decode cX3_readNumber 56 = .ok (.goto (-46), 3) := by decide +kernel
theorem dX3_readNumber_59 : decode cX3_readNumber 59 = .ok (.iload_n 1, 1) := by decide +kernel
theorem dX3_readNumber_60 : decode cX3_readNumber 60 = .ok (.ireturn, 1) := by decide +kernel
theorem dX3_readName_0 : decode cX3_readName 0 = .ok (.aload_n 0, 1) := by decide +kernel
theorem dX3_readName_1 : decode cX3_readName 1 = .ok (.bipush 97, 2) := by decide +kernel
theorem dX3_readName_3 : decode cX3_readName 3 = .ok (.iconst 0, 1) := by decide +kernel
theorem dX3_readName_4 : decode cX3_readName 4 = .ok (.bipush 9, 2) := by decide +kernel
theorem dX3_readName_6 : decode cX3_readName 6 = .ok (.invokevirtual 84, 3) := by decide +kernel
theorem dX3_readName_9 : decode cX3_readName 9 = .ok (.ireturn, 1) := by decide +kernel
theorem dX3_readDigit_0 : decode cX3_readDigit 0 = .ok (.aload_n 0, 1) := by decide +kernel
theorem dX3_readDigit_1 : decode cX3_readDigit 1 = .ok (.bipush 48, 2) := by decide +kernel
theorem dX3_readDigit_3 : decode cX3_readDigit 3 = .ok (.iload_n 1, 1) := by decide +kernel
theorem dX3_readDigit_4 : decode cX3_readDigit 4 = .ok (.iload_n 2, 1) := by decide +kernel
theorem dX3_readDigit_5 : decode cX3_readDigit 5 = .ok (.invokevirtual 84, 3) := by decide +kernel
theorem dX3_readDigit_8 : decode cX3_readDigit 8 = .ok (.ireturn, 1) := by decide +kernel
theorem dX3_readSign_0 : decode cX3_readSign 0 = .ok (.aload_n 0, 1) := by decide +kernel
theorem dX3_readSign_1 : decode cX3_readSign 1 = .ok (.iload_n 1, 1) := by decide +kernel
theorem dX3_readSign_2 : decode cX3_readSign 2 = .ok (.iconst 0, 1) := by decide +kernel
theorem dX3_readSign_3 : decode cX3_readSign 3 = .ok (.iconst 0, 1) := by decide +kernel
theorem dX3_readSign_4 : decode cX3_readSign 4 = .ok (.invokevirtual 84, 3) := by decide +kernel
theorem dX3_readSign_7 : decode cX3_readSign 7 = .ok (.bipush (-6), 2) := by decide +kernel
theorem dX3_readSign_9 : decode cX3_readSign 9 = .ok (.if_icmp .eq 7, 3) := by decide +kernel
theorem dX3_readSign_12 : decode cX3_readSign 12 = .ok (.iconst 1, 1) := by decide +kernel
theorem dX3_readSign_13 : decode cX3_readSign 13 = .ok (.goto 4, 3) := by decide +kernel
theorem dX3_readSign_16 : decode cX3_readSign 16 = .ok (.iconst 0, 1) := by decide +kernel
theorem dX3_readSign_17 : decode cX3_readSign 17 = .ok (.ireturn, 1) := by decide +kernel
theorem dX3_readOffset_0 : decode cX3_readOffset 0 = .ok (.aload_n 0, 1) := by decide +kernel
theorem dX3_readOffset_1 : decode cX3_readOffset 1 = .ok (.getfield 36, 3) := by decide +kernel
theorem dX3_readOffset_4 : decode cX3_readOffset 4 = .ok (.aload_n 0, 1) := by decide +kernel
theorem dX3_readOffset_5 : decode cX3_readOffset 5 = .ok (.getfield 22, 3) := by decide +kernel
theorem dX3_readOffset_8 : decode cX3_readOffset 8 = .ok (.if_icmp .ge 12, 3) := by decide +kernel
theorem dX3_readOffset_11 : decode cX3_readOffset 11 = .ok (.aload_n 0, 1) := by decide +kernel
theorem dX3_readOffset_12 : decode cX3_readOffset 12 = .ok (.getfield 36, 3) := by decide +kernel
theorem dX3_readOffset_15 : decode cX3_readOffset 15 = .ok (.bipush 80, 2) := by decide +kernel
theorem dX3_readOffset_17 : decode cX3_readOffset 17 = .ok (.if_icmp .lt 6, 3) := by decide +kernel
theorem dX3_readOffset_20 : decode cX3_readOffset 20 = .ok (.bipush (-6), 2) := by decide +kernel
theorem dX3_readOffset_22 : decode cX3_readOffset 22 = .ok (.ireturn, 1) := by decide +kernel
theorem dX3_readOffset_23 : decode cX3_readOffset 23 = .ok (.aload_n 0, 1) := by decide +kernel
theorem dX3_readOffset_24 : decode cX3_readOffset 24 = .ok (.getfield 9, 3) := by decide +kernel
theorem dX3_readOffset_27 : decode cX3_readOffset 27 = .ok (.aload_n 0, 1) := by decide +kernel
theorem dX3_readOffset_28 : decode cX3_readOffset 28 = .ok (.getfield 36, 3) := by decide +kernel
theorem dX3_readOffset_31 : decode cX3_readOffset 31 = .ok (.caload, 1) := by decide +kernel
theorem dX3_readOffset_32 : decode cX3_readOffset 32 = .ok (.iload_n 1, 1) := by decide +kernel
theorem dX3_readOffset_33 : decode cX3_readOffset 33 = .ok (.isub, 1) := by decide +kernel
theorem dX3_readOffset_34 : decode cX3_readOffset 34 = .ok (.istore 4, 2) := by decide +kernel
theorem dX3_readOffset_36 : decode cX3_readOffset 36 = .ok (.iload 4, 2) := by decide +kernel
theorem dX3_readOffset_38 : decode cX3_readOffset 38 = .ok (.iload_n 2, 1) := by decide +kernel
theorem dX3_readOffset_39 : decode cX3_readOffset 39 = .ok (.if_icmp .lt 9, 3) := by decide +kernel
theorem dX3_readOffset_42 : decode cX3_readOffset 42 = .ok (.iload 4, 2) := by decide +kernel
theorem dX3_readOffset_44 : decode cX3_readOffset 44 = .ok (.iload_n 3, 1) := by decide +kernel
theorem dX3_readOffset_45 : decode cX3_readOffset 45 = .ok (.if_icmp .le 6, 3) := by decide +kernel
theorem dX3_readOffset_48 : decode cX3_readOffset 48 = .ok (.bipush (-6), 2) := by decide +kernel
theorem dX3_readOffset_50 : decode cX3_readOffset 50 = .ok (.ireturn, 1) := by decide +kernel
theorem dX3_readOffset_51 : decode cX3_readOffset 51 = .ok (.aload_n 0, 1) := by decide +kernel
theorem dX3_readOffset_52 : decode cX3_readOffset 52 = .ok (.dup, 1) := by decide +kernel
theorem dX3_readOffset_53 : decode cX3_readOffset 53 = .ok (.getfield 36, 3) := by decide +kernel
theorem dX3_readOffset_56 : decode cX3_readOffset 56 = .ok (.iconst 1, 1) := by decide +kernel
theorem dX3_readOffset_57 : decode cX3_readOffset 57 = .ok (.iadd, 1) := by decide +kernel
theorem dX3_readOffset_58 : decode cX3_readOffset 58 = .ok (.putfield 36, 3) := by decide +kernel
theorem dX3_readOffset_61 : decode cX3_readOffset 61 = .ok (.iload 4, 2) := by decide +kernel
theorem dX3_readOffset_63 : decode cX3_readOffset 63 = .ok (.ireturn, 1) := by decide +kernel
theorem dX4_init_0 : decode cX4_init 0 = .ok (.aload_n 0, 1) := by decide +kernel
theorem dX4_init_1 : decode cX4_init 1 = .ok (.invokespecial 3, 3) := by decide +kernel
theorem dX4_init_4 : decode cX4_init 4 = .ok (.aload_n 0, 1) := by decide +kernel
theorem dX4_init_5 : decode cX4_init 5 = .ok (.bipush 48, 2) := by decide +kernel
theorem dX4_init_7 : decode cX4_init 7 = .ok (.newarray .int, 2) := by decide +kernel
theorem dX4_init_9 : decode cX4_init 9 = .ok (.putfield 9, 3) := by decide +kernel
theorem dX4_init_12 : decode cX4_init 12 = .ok (.iconst 0, 1) := by decide +kernel
theorem dX4_init_13 : decode cX4_init 13 = .ok (.istore_n 1, 1) := by decide +kernel
theorem dX4_init_14 : decode cX4_init 14 = .ok (.iload_n 1, 1) := by decide +kernel
theorem dX4_init_15 : decode cX4_init 15 = .ok (.bipush 48, 2) := by decide +kernel
theorem dX4_init_17 : decode cX4_init 17 = .ok (.if_icmp .ge 17, 3) := by decide +kernel
theorem dX4_init_20 : decode cX4_init 20 = .ok (.aload_n 0, 1) := by decide +kernel
theorem dX4_init_21 : decode cX4_init 21 = .ok (.getfield 9, 3) := by decide +kernel
theorem dX4_init_24 : decode cX4_init 24 = .ok (.iload_n 1, 1) := by decide +kernel
theorem dX4_init_25 : decode cX4_init 25 = .ok (.bipush (-6), 2) := by decide +kernel
theorem dX4_init_27 : decode cX4_init 27 = .ok (.iastore, 1) := by decide +kernel
theorem dX4_init_28 : decode cX4_init 28 = .ok (.iinc 1 1, 3) := by decide +kernel
theorem dX4_init_31 : decode cX4_init 31 = .ok (.goto (-17), 3) := by decide +kernel
theorem dX4_init_34 : decode cX4_init 34 = .ok (.return_, 1) := by decide +kernel
theorem dX4_writes_0 : decode cX4_writes 0 = .ok (.aload_n 0, 1) := by decide +kernel
theorem dX4_writes_1 : decode cX4_writes 1 = .ok (.getfield 15, 3) := by decide +kernel
theorem dX4_writes_4 : decode cX4_writes 4 = .ok (.ireturn, 1) := by decide +kernel
theorem dX4_erasures_0 : decode cX4_erasures 0 = .ok (.aload_n 0, 1) := by decide +kernel
theorem dX4_erasures_1 : decode cX4_erasures 1 = .ok (.getfield 19, 3) := by decide +kernel
theorem dX4_erasures_4 : decode cX4_erasures 4 = .ok (.ireturn, 1) := by decide +kernel
theorem dX4_copyFrom_0 : decode cX4_copyFrom 0 = .ok (.aload_n 1, 1) := by decide +kernel
theorem dX4_copyFrom_1 : decode cX4_copyFrom 1 = .ok (.getfield 9, 3) := by decide +kernel
theorem dX4_copyFrom_4 : decode cX4_copyFrom 4 = .ok (.iconst 0, 1) := by decide +kernel
theorem dX4_copyFrom_5 : decode cX4_copyFrom 5 = .ok (.aload_n 0, 1) := by decide +kernel
theorem dX4_copyFrom_6 : decode cX4_copyFrom 6 = .ok (.getfield 9, 3) := by decide +kernel
theorem dX4_copyFrom_9 : decode cX4_copyFrom 9 = .ok (.iconst 0, 1) := by decide +kernel
theorem dX4_copyFrom_10 : decode cX4_copyFrom 10 = .ok (.bipush 48, 2) := by decide +kernel
theorem dX4_copyFrom_12 : decode cX4_copyFrom 12 = .ok (.invokestatic 22, 3) := by decide +kernel
theorem dX4_copyFrom_15 : decode cX4_copyFrom 15 = .ok (.aload_n 0, 1) := by decide +kernel
theorem dX4_copyFrom_16 : decode cX4_copyFrom 16 = .ok (.aload_n 1, 1) := by decide +kernel
theorem dX4_copyFrom_17 : decode cX4_copyFrom 17 = .ok (.getfield 15, 3) := by decide +kernel
theorem dX4_copyFrom_20 : decode cX4_copyFrom 20 = .ok (.putfield 15, 3) := by decide +kernel
theorem dX4_copyFrom_23 : decode cX4_copyFrom 23 = .ok (.aload_n 0, 1) := by decide +kernel
theorem dX4_copyFrom_24 : decode cX4_copyFrom 24 = .ok (.aload_n 1, 1) := by decide +kernel
theorem dX4_copyFrom_25 : decode cX4_copyFrom 25 = .ok (.getfield 19, 3) := by decide +kernel
theorem dX4_copyFrom_28 : decode cX4_copyFrom 28 = .ok (.putfield 19, 3) := by decide +kernel
theorem dX4_copyFrom_31 : decode cX4_copyFrom 31 = .ok (.return_, 1) := by decide +kernel
theorem dX4_erase_0 : decode cX4_erase 0 = .ok (.iconst 0, 1) := by decide +kernel
theorem dX4_erase_1 : decode cX4_erase 1 = .ok (.istore_n 1, 1) := by decide +kernel
theorem dX4_erase_2 : decode cX4_erase 2 = .ok (.iload_n 1, 1) := by decide +kernel
theorem dX4_erase_3 : decode cX4_erase 3 = .ok (.bipush 48, 2) := by decide +kernel
theorem dX4_erase_5 : decode cX4_erase 5 = .ok (.if_icmp .ge 17, 3) := by decide +kernel
theorem dX4_erase_8 : decode cX4_erase 8 = .ok (.aload_n 0, 1) := by decide +kernel
theorem dX4_erase_9 : decode cX4_erase 9 = .ok (.getfield 9, 3) := by decide +kernel
theorem dX4_erase_12 : decode cX4_erase 12 = .ok (.iload_n 1, 1) := by decide +kernel
theorem dX4_erase_13 : decode cX4_erase 13 = .ok (.bipush (-6), 2) := by decide +kernel
theorem dX4_erase_15 : decode cX4_erase 15 = .ok (.iastore, 1) := by decide +kernel
theorem dX4_erase_16 : decode cX4_erase 16 = .ok (.iinc 1 1, 3) := by decide +kernel
theorem dX4_erase_19 : decode cX4_erase 19 = .ok (.goto (-17), 3) := by decide +kernel
theorem dX4_erase_22 : decode cX4_erase 22 = .ok (.aload_n 0, 1) := by decide +kernel
theorem dX4_erase_23 : decode cX4_erase 23 = .ok (.dup, 1) := by decide +kernel
theorem dX4_erase_24 : decode cX4_erase 24 = .ok (.getfield 19, 3) := by decide +kernel
theorem dX4_erase_27 : decode cX4_erase 27 = .ok (.iconst 1, 1) := by decide +kernel
theorem dX4_erase_28 : decode cX4_erase 28 = .ok (.iadd, 1) := by decide +kernel
theorem dX4_erase_29 : decode cX4_erase 29 = .ok (.putfield 19, 3) := by decide +kernel
theorem dX4_erase_32 : decode cX4_erase 32 = .ok (.return_, 1) := by decide +kernel
theorem dX4_valueAt_0 : decode cX4_valueAt 0 = .ok (.iload_n 1, 1) := by decide +kernel
theorem dX4_valueAt_1 : decode cX4_valueAt 1 = .ok (.ifCond .lt 18, 3) := by decide +kernel
theorem dX4_valueAt_4 : decode cX4_valueAt 4 = .ok (.iload_n 1, 1) := by decide +kernel
theorem dX4_valueAt_5 : decode cX4_valueAt 5 = .ok (.bipush 48, 2) := by decide +kernel
theorem dX4_valueAt_7 : decode cX4_valueAt 7 = .ok (.if_icmp .ge 12, 3) := by decide +kernel
theorem dX4_valueAt_10 : decode cX4_valueAt 10 = .ok (.aload_n 0, 1) := by decide +kernel
theorem dX4_valueAt_11 : decode cX4_valueAt 11 = .ok (.getfield 9, 3) := by decide +kernel
theorem dX4_valueAt_14 : decode cX4_valueAt 14 = .ok (.iload_n 1, 1) := by decide +kernel
theorem dX4_valueAt_15 : decode cX4_valueAt 15 = .ok (.iaload, 1) := by decide +kernel
theorem dX4_valueAt_16 : decode cX4_valueAt 16 = .ok (.goto 5, 3) := by decide +kernel
theorem dX4_valueAt_19 : decode cX4_valueAt 19 = .ok (.bipush (-6), 2) := by decide +kernel
theorem dX4_valueAt_21 : decode cX4_valueAt 21 = .ok (.ireturn, 1) := by decide +kernel
theorem dX4_replace_0 : decode cX4_replace 0 = .ok (.iload_n 1, 1) := by decide +kernel
theorem dX4_replace_1 : decode cX4_replace 1 = .ok (.ifCond .lt 16, 3) := by decide +kernel
theorem dX4_replace_4 : decode cX4_replace 4 = .ok (.iload_n 1, 1) := by decide +kernel
theorem dX4_replace_5 : decode cX4_replace 5 = .ok (.bipush 48, 2) := by decide +kernel
theorem dX4_replace_7 : decode cX4_replace 7 = .ok (.if_icmp .ge 10, 3) := by decide +kernel
theorem dX4_replace_10 : decode cX4_replace 10 = .ok (.aload_n 0, 1) := by decide +kernel
theorem dX4_replace_11 : decode cX4_replace 11 = .ok (.getfield 9, 3) := by decide +kernel
theorem dX4_replace_14 : decode cX4_replace 14 = .ok (.iload_n 1, 1) := by decide +kernel
theorem dX4_replace_15 : decode cX4_replace 15 = .ok (.iload_n 2, 1) := by decide +kernel
theorem dX4_replace_16 : decode cX4_replace 16 = .ok (.iastore, 1) := by decide +kernel
theorem dX4_replace_17 : decode cX4_replace 17 = .ok (.return_, 1) := by decide +kernel
theorem dX4_countWrite_0 : decode cX4_countWrite 0 = .ok (.aload_n 0, 1) := by decide +kernel
theorem dX4_countWrite_1 : decode cX4_countWrite 1 = .ok (.dup, 1) := by decide +kernel
theorem dX4_countWrite_2 : decode cX4_countWrite 2 = .ok (.getfield 15, 3) := by decide +kernel
theorem dX4_countWrite_5 : decode cX4_countWrite 5 = .ok (.iconst 1, 1) := by decide +kernel
theorem dX4_countWrite_6 : decode cX4_countWrite 6 = .ok (.iadd, 1) := by decide +kernel
theorem dX4_countWrite_7 : decode cX4_countWrite 7 = .ok (.putfield 15, 3) := by decide +kernel
theorem dX4_countWrite_10 : decode cX4_countWrite 10 = .ok (.return_, 1) := by decide +kernel
theorem dX4_countFilledCells_0 : decode cX4_countFilledCells 0 = .ok (.iconst 0, 1) := by decide +kernel
theorem dX4_countFilledCells_1 : decode cX4_countFilledCells 1 = .ok (.istore_n 1, 1) := by decide +kernel
theorem dX4_countFilledCells_2 : decode cX4_countFilledCells 2 = .ok (.iconst 0, 1) := by decide +kernel
theorem dX4_countFilledCells_3 : decode cX4_countFilledCells 3 = .ok (.istore_n 2, 1) := by decide +kernel
theorem dX4_countFilledCells_4 : decode cX4_countFilledCells 4 = .ok (.iload_n 2, 1) := by decide +kernel
theorem dX4_countFilledCells_5 : decode cX4_countFilledCells 5 = .ok (.bipush 48, 2) := by decide +kernel
theorem dX4_countFilledCells_7 : decode cX4_countFilledCells 7 = .ok (.if_icmp .ge 23, 3) := by decide +kernel
theorem dX4_countFilledCells_10 : decode cX4_countFilledCells 10 = .ok (.aload_n 0, 1) := by decide +kernel
theorem dX4_countFilledCells_11 : decode cX4_countFilledCells 11 = .ok (.getfield 9, 3) := by decide +kernel
theorem dX4_countFilledCells_14 : decode cX4_countFilledCells 14 = .ok (.iload_n 2, 1) := by decide +kernel
theorem dX4_countFilledCells_15 : decode cX4_countFilledCells 15 = .ok (.iaload, 1) := by decide +kernel
theorem dX4_countFilledCells_16 : decode cX4_countFilledCells 16 = .ok (.bipush (-6), 2) := by decide +kernel
theorem dX4_countFilledCells_18 : decode cX4_countFilledCells 18 = .ok (.if_icmp .eq 6, 3) := by decide +kernel
theorem dX4_countFilledCells_21 : decode cX4_countFilledCells 21 = .ok (.iinc 1 1, 3) := by decide +kernel
theorem dX4_countFilledCells_24 : decode cX4_countFilledCells 24 = .ok (.iinc 2 1, 3) := by decide +kernel
theorem dX4_countFilledCells_27 : decode cX4_countFilledCells 27 = .ok (.goto (-23), 3) := by decide +kernel
theorem dX4_countFilledCells_30 : decode cX4_countFilledCells 30 = .ok (.iload_n 1, 1) := by decide +kernel
theorem dX4_countFilledCells_31 : decode cX4_countFilledCells 31 = .ok (.ireturn, 1) := by decide +kernel
theorem dX4_version_0 : decode cX4_version 0 = .ok (.aload_n 0, 1) := by decide +kernel
theorem dX4_version_1 : decode cX4_version 1 = .ok (.iconst 0, 1) := by decide +kernel
theorem dX4_version_2 : decode cX4_version 2 = .ok (.invokevirtual 28, 3) := by decide +kernel
theorem dX4_version_5 : decode cX4_version 5 = .ok (.sipush 200, 3) := by decide +kernel
theorem dX4_version_8 : decode cX4_version 8 = .ok (.isub, 1) := by decide +kernel
theorem dX4_version_9 : decode cX4_version 9 = .ok (.ireturn, 1) := by decide +kernel
theorem dX4_sequence_0 : decode cX4_sequence 0 = .ok (.aload_n 0, 1) := by decide +kernel
theorem dX4_sequence_1 : decode cX4_sequence 1 = .ok (.iconst 1, 1) := by decide +kernel
theorem dX4_sequence_2 : decode cX4_sequence 2 = .ok (.invokevirtual 28, 3) := by decide +kernel
theorem dX4_sequence_5 : decode cX4_sequence 5 = .ok (.ireturn, 1) := by decide +kernel
theorem dX4_hasGoodHead_0 : decode cX4_hasGoodHead 0 = .ok (.aload_n 0, 1) := by decide +kernel
theorem dX4_hasGoodHead_1 : decode cX4_hasGoodHead 1 = .ok (.iconst 0, 1) := by decide +kernel
theorem dX4_hasGoodHead_2 : decode cX4_hasGoodHead 2 = .ok (.invokevirtual 32, 3) := by decide +kernel
theorem dX4_hasGoodHead_5 : decode cX4_hasGoodHead 5 = .ok (.ifCond .eq 49, 3) := by decide +kernel
theorem dX4_hasGoodHead_8 : decode cX4_hasGoodHead 8 = .ok (.aload_n 1, 1) := by decide +kernel
theorem dX4_hasGoodHead_9 : decode cX4_hasGoodHead 9 = .ok (.aload_n 0, 1) := by decide +kernel
theorem dX4_hasGoodHead_10 : decode cX4_hasGoodHead 10 = .ok (.invokevirtual 36, 3) := by decide +kernel
theorem dX4_hasGoodHead_13 : decode cX4_hasGoodHead 13 = .ok (.invokevirtual 40, 3) := by decide +kernel
theorem dX4_hasGoodHead_16 : decode cX4_hasGoodHead 16 = .ok (.ifCond .eq 38, 3) := by decide +kernel
theorem dX4_hasGoodHead_19 : decode cX4_hasGoodHead 19 = .ok (.aload_n 0, 1) := by decide +kernel
theorem dX4_hasGoodHead_20 : decode cX4_hasGoodHead 20 = .ok (.invokevirtual 45, 3) := by decide +kernel
theorem dX4_hasGoodHead_23 : decode cX4_hasGoodHead 23 = .ok (.sipush 200, 3) := by decide +kernel
theorem dX4_hasGoodHead_26 : decode cX4_hasGoodHead 26 = .ok (.if_icmp .ge 28, 3) := by decide +kernel
theorem dX4_hasGoodHead_29 : decode cX4_hasGoodHead 29 = .ok (.aload_n 0, 1) := by decide +kernel
theorem dX4_hasGoodHead_30 : decode cX4_hasGoodHead 30 = .ok (.iconst 2, 1) := by decide +kernel
theorem dX4_hasGoodHead_31 : decode cX4_hasGoodHead 31 = .ok (.invokevirtual 28, 3) := by decide +kernel
theorem dX4_hasGoodHead_34 : decode cX4_hasGoodHead 34 = .ok (.aload_n 0, 1) := by decide +kernel
theorem dX4_hasGoodHead_35 : decode cX4_hasGoodHead 35 = .ok (.iconst 0, 1) := by decide +kernel
theorem dX4_hasGoodHead_36 : decode cX4_hasGoodHead 36 = .ok (.invokevirtual 28, 3) := by decide +kernel
theorem dX4_hasGoodHead_39 : decode cX4_hasGoodHead 39 = .ok (.aload_n 0, 1) := by decide +kernel
theorem dX4_hasGoodHead_40 : decode cX4_hasGoodHead 40 = .ok (.iconst 1, 1) := by decide +kernel
theorem dX4_hasGoodHead_41 : decode cX4_hasGoodHead 41 = .ok (.invokevirtual 28, 3) := by decide +kernel
theorem dX4_hasGoodHead_44 : decode cX4_hasGoodHead 44 = .ok (.invokestatic 48, 3) := by decide +kernel
theorem dX4_hasGoodHead_47 : decode cX4_hasGoodHead 47 = .ok (.if_icmp .ne 7, 3) := by decide +kernel
theorem dX4_hasGoodHead_50 : decode cX4_hasGoodHead 50 = .ok (.iconst 1, 1) := by decide +kernel
theorem dX4_hasGoodHead_51 : decode cX4_hasGoodHead 51 = .ok (.goto 4, 3) := by decide +kernel
theorem dX4_hasGoodHead_54 : decode cX4_hasGoodHead 54 = .ok (.iconst 0, 1) := by decide +kernel
theorem dX4_hasGoodHead_55 : decode cX4_hasGoodHead 55 = .ok (.ireturn, 1) := by decide +kernel
theorem dX4_hasRecordAt_0 : decode cX4_hasRecordAt 0 = .ok (.iload_n 1, 1) := by decide +kernel
theorem dX4_hasRecordAt_1 : decode cX4_hasRecordAt 1 = .ok (.iconst 3, 1) := by decide +kernel
theorem dX4_hasRecordAt_2 : decode cX4_hasRecordAt 2 = .ok (.if_icmp .lt 26, 3) := by decide +kernel
theorem dX4_hasRecordAt_5 : decode cX4_hasRecordAt 5 = .ok (.iload_n 1, 1) := by decide +kernel
theorem dX4_hasRecordAt_6 : decode cX4_hasRecordAt 6 = .ok (.iconst 3, 1) := by decide +kernel
theorem dX4_hasRecordAt_7 : decode cX4_hasRecordAt 7 = .ok (.iadd, 1) := by decide +kernel
theorem dX4_hasRecordAt_8 : decode cX4_hasRecordAt 8 = .ok (.bipush 48, 2) := by decide +kernel
theorem dX4_hasRecordAt_10 : decode cX4_hasRecordAt 10 = .ok (.if_icmp .gt 18, 3) := by decide +kernel
theorem dX4_hasRecordAt_13 : decode cX4_hasRecordAt 13 = .ok (.aload_n 0, 1) := by decide +kernel
theorem dX4_hasRecordAt_14 : decode cX4_hasRecordAt 14 = .ok (.getfield 9, 3) := by decide +kernel
theorem dX4_hasRecordAt_17 : decode cX4_hasRecordAt 17 = .ok (.iload_n 1, 1) := by decide +kernel
theorem dX4_hasRecordAt_18 : decode cX4_hasRecordAt 18 = .ok (.iaload, 1) := by decide +kernel
theorem dX4_hasRecordAt_19 : decode cX4_hasRecordAt 19 = .ok (.bipush (-6), 2) := by decide +kernel
theorem dX4_hasRecordAt_21 : decode cX4_hasRecordAt 21 = .ok (.if_icmp .eq 7, 3) := by decide +kernel
theorem dX4_hasRecordAt_24 : decode cX4_hasRecordAt 24 = .ok (.iconst 1, 1) := by decide +kernel
theorem dX4_hasRecordAt_25 : decode cX4_hasRecordAt 25 = .ok (.goto 4, 3) := by decide +kernel
theorem dX4_hasRecordAt_28 : decode cX4_hasRecordAt 28 = .ok (.iconst 0, 1) := by decide +kernel
theorem dX4_hasRecordAt_29 : decode cX4_hasRecordAt 29 = .ok (.ireturn, 1) := by decide +kernel
theorem dX4_hasGoodRecordAt_0 : decode cX4_hasGoodRecordAt 0 = .ok (.aload_n 0, 1) := by decide +kernel
theorem dX4_hasGoodRecordAt_1 : decode cX4_hasGoodRecordAt 1 = .ok (.iload_n 1, 1) := by decide +kernel
theorem dX4_hasGoodRecordAt_2 : decode cX4_hasGoodRecordAt 2 = .ok (.invokevirtual 32, 3) := by decide +kernel
theorem dX4_hasGoodRecordAt_5 : decode cX4_hasGoodRecordAt 5 = .ok (.ifCond .eq 52, 3) := by decide +kernel
theorem dX4_hasGoodRecordAt_8 : decode cX4_hasGoodRecordAt 8 = .ok (.aload_n 2, 1) := by decide +kernel
theorem dX4_hasGoodRecordAt_9 : decode cX4_hasGoodRecordAt 9 = .ok (.aload_n 0, 1) := by decide +kernel
theorem dX4_hasGoodRecordAt_10 : decode cX4_hasGoodRecordAt 10 = .ok (.iload_n 1, 1) := by decide +kernel
theorem dX4_hasGoodRecordAt_11 : decode cX4_hasGoodRecordAt 11 = .ok (.invokevirtual 52, 3) := by decide +kernel
theorem dX4_hasGoodRecordAt_14 : decode cX4_hasGoodRecordAt 14 = .ok (.aload_n 0, 1) := by decide +kernel
theorem dX4_hasGoodRecordAt_15 : decode cX4_hasGoodRecordAt 15 = .ok (.iload_n 1, 1) := by decide +kernel
theorem dX4_hasGoodRecordAt_16 : decode cX4_hasGoodRecordAt 16 = .ok (.iconst 1, 1) := by decide +kernel
theorem dX4_hasGoodRecordAt_17 : decode cX4_hasGoodRecordAt 17 = .ok (.iadd, 1) := by decide +kernel
theorem dX4_hasGoodRecordAt_18 : decode cX4_hasGoodRecordAt 18 = .ok (.invokevirtual 28, 3) := by decide +kernel
theorem dX4_hasGoodRecordAt_21 : decode cX4_hasGoodRecordAt 21 = .ok (.invokevirtual 55, 3) := by decide +kernel
theorem dX4_hasGoodRecordAt_24 : decode cX4_hasGoodRecordAt 24 = .ok (.ifCond .eq 33, 3) := by decide +kernel
theorem dX4_hasGoodRecordAt_27 : decode cX4_hasGoodRecordAt 27 = .ok (.aload_n 0, 1) := by decide +kernel
theorem dX4_hasGoodRecordAt_28 : decode cX4_hasGoodRecordAt 28 = .ok (.iload_n 1, 1) := by decide +kernel
theorem dX4_hasGoodRecordAt_29 : decode cX4_hasGoodRecordAt 29 = .ok (.iconst 2, 1) := by decide +kernel
theorem dX4_hasGoodRecordAt_30 : decode cX4_hasGoodRecordAt 30 = .ok (.iadd, 1) := by decide +kernel
theorem dX4_hasGoodRecordAt_31 : decode cX4_hasGoodRecordAt 31 = .ok (.invokevirtual 28, 3) := by decide +kernel
theorem dX4_hasGoodRecordAt_34 : decode cX4_hasGoodRecordAt 34 = .ok (.aload_n 0, 1) := by decide +kernel
theorem dX4_hasGoodRecordAt_35 : decode cX4_hasGoodRecordAt 35 = .ok (.iload_n 1, 1) := by decide +kernel
theorem dX4_hasGoodRecordAt_36 : decode cX4_hasGoodRecordAt 36 = .ok (.invokevirtual 28, 3) := by decide +kernel
theorem dX4_hasGoodRecordAt_39 : decode cX4_hasGoodRecordAt 39 = .ok (.aload_n 0, 1) := by decide +kernel
theorem dX4_hasGoodRecordAt_40 : decode cX4_hasGoodRecordAt 40 = .ok (.iload_n 1, 1) := by decide +kernel
theorem dX4_hasGoodRecordAt_41 : decode cX4_hasGoodRecordAt 41 = .ok (.iconst 1, 1) := by decide +kernel
theorem dX4_hasGoodRecordAt_42 : decode cX4_hasGoodRecordAt 42 = .ok (.iadd, 1) := by decide +kernel
theorem dX4_hasGoodRecordAt_43 : decode cX4_hasGoodRecordAt 43 = .ok (.invokevirtual 28, 3) := by decide +kernel
theorem dX4_hasGoodRecordAt_46 : decode cX4_hasGoodRecordAt 46 = .ok (.iload_n 3, 1) := by decide +kernel
theorem dX4_hasGoodRecordAt_47 : decode cX4_hasGoodRecordAt 47 = .ok (.invokestatic 61, 3) := by decide +kernel
theorem dX4_hasGoodRecordAt_50 : decode cX4_hasGoodRecordAt 50 = .ok (.if_icmp .ne 7, 3) := by decide +kernel
theorem dX4_hasGoodRecordAt_53 : decode cX4_hasGoodRecordAt 53 = .ok (.iconst 1, 1) := by decide +kernel
theorem dX4_hasGoodRecordAt_54 : decode cX4_hasGoodRecordAt 54 = .ok (.goto 4, 3) := by decide +kernel
theorem dX4_hasGoodRecordAt_57 : decode cX4_hasGoodRecordAt 57 = .ok (.iconst 0, 1) := by decide +kernel
theorem dX4_hasGoodRecordAt_58 : decode cX4_hasGoodRecordAt 58 = .ok (.ireturn, 1) := by decide +kernel
theorem dX4_nameAt_0 : decode cX4_nameAt 0 = .ok (.aload_n 0, 1) := by decide +kernel
theorem dX4_nameAt_1 : decode cX4_nameAt 1 = .ok (.iload_n 1, 1) := by decide +kernel
theorem dX4_nameAt_2 : decode cX4_nameAt 2 = .ok (.invokevirtual 28, 3) := by decide +kernel
theorem dX4_nameAt_5 : decode cX4_nameAt 5 = .ok (.iconst 1, 1) := by decide +kernel
theorem dX4_nameAt_6 : decode cX4_nameAt 6 = .ok (.isub, 1) := by decide +kernel
theorem dX4_nameAt_7 : decode cX4_nameAt 7 = .ok (.ireturn, 1) := by decide +kernel
theorem dX4_countRecords_0 : decode cX4_countRecords 0 = .ok (.aload_n 0, 1) := by decide +kernel
theorem dX4_countRecords_1 : decode cX4_countRecords 1 = .ok (.aload_n 1, 1) := by decide +kernel
theorem dX4_countRecords_2 : decode cX4_countRecords 2 = .ok (.invokevirtual 65, 3) := by decide +kernel
theorem dX4_countRecords_5 : decode cX4_countRecords 5 = .ok (.ifCond .ne 5, 3) := by decide +kernel
theorem dX4_countRecords_8 : decode cX4_countRecords 8 = .ok (.iconst 0, 1) := by decide +kernel
theorem dX4_countRecords_9 : decode cX4_countRecords 9 = .ok (.ireturn, 1) := by decide +kernel
theorem dX4_countRecords_10 : decode cX4_countRecords 10 = .ok (.aload_n 1, 1) := by decide +kernel
theorem dX4_countRecords_11 : decode cX4_countRecords 11 = .ok (.aload_n 0, 1) := by decide +kernel
theorem dX4_countRecords_12 : decode cX4_countRecords 12 = .ok (.invokevirtual 36, 3) := by decide +kernel
theorem dX4_countRecords_15 : decode cX4_countRecords 15 = .ok (.invokevirtual 69, 3) := by decide +kernel
theorem dX4_countRecords_18 : decode cX4_countRecords 18 = .ok (.astore_n 3, 1) := by decide +kernel
theorem dX4_countRecords_19 : decode cX4_countRecords 19 = .ok (.iconst 0, 1) := by decide +kernel
theorem dX4_countRecords_20 : decode cX4_countRecords 20 = .ok (.istore 4, 2) := by decide +kernel
theorem dX4_countRecords_22 : decode cX4_countRecords 22 = .ok (.iconst 3, 1) := by decide +kernel
theorem dX4_countRecords_23 : decode cX4_countRecords 23 = .ok (.istore 5, 2) := by decide +kernel
theorem dX4_countRecords_25 : decode cX4_countRecords 25 = .ok (.iload 5, 2) := by decide +kernel
theorem dX4_countRecords_27 : decode cX4_countRecords 27 = .ok (.bipush 48, 2) := by decide +kernel
theorem dX4_countRecords_29 : decode cX4_countRecords 29 = .ok (.if_icmp .ge 36, 3) := by decide +kernel
theorem dX4_countRecords_32 : decode cX4_countRecords 32 = .ok (.aload_n 0, 1) := by decide +kernel
theorem dX4_countRecords_33 : decode cX4_countRecords 33 = .ok (.iload 5, 2) := by decide +kernel
theorem dX4_countRecords_35 : decode cX4_countRecords 35 = .ok (.invokevirtual 73, 3) := by decide +kernel
theorem dX4_countRecords_38 : decode cX4_countRecords 38 = .ok (.ifCond .eq 27, 3) := by decide +kernel
theorem dX4_countRecords_41 : decode cX4_countRecords 41 = .ok (.aload_n 0, 1) := by decide +kernel
theorem dX4_countRecords_42 : decode cX4_countRecords 42 = .ok (.iload 5, 2) := by decide +kernel
theorem dX4_countRecords_44 : decode cX4_countRecords 44 = .ok (.aload_n 3, 1) := by decide +kernel
theorem dX4_countRecords_45 : decode cX4_countRecords 45 = .ok (.aload_n 0, 1) := by decide +kernel
theorem dX4_countRecords_46 : decode cX4_countRecords 46 = .ok (.invokevirtual 36, 3) := by decide +kernel
theorem dX4_countRecords_49 : decode cX4_countRecords 49 = .ok (.invokevirtual 76, 3) := by decide +kernel
theorem dX4_countRecords_52 : decode cX4_countRecords 52 = .ok (.iload_n 2, 1) := by decide +kernel
theorem dX4_countRecords_53 : decode cX4_countRecords 53 = .ok (.if_icmp .ne 6, 3) := by decide +kernel
theorem dX4_countRecords_56 : decode cX4_countRecords 56 = .ok (.iinc 4 1, 3) := by decide +kernel
theorem dX4_countRecords_59 : decode cX4_countRecords 59 = .ok (.iinc 5 3, 3) := by decide +kernel
theorem dX4_countRecords_62 : decode cX4_countRecords 62 = .ok (.goto (-37), 3) := by decide +kernel
theorem dX4_countRecords_65 : decode cX4_countRecords 65 = .ok (.iload 4, 2) := by decide +kernel
theorem dX4_countRecords_67 : decode cX4_countRecords 67 = .ok (.ireturn, 1) := by decide +kernel
theorem dX4_hasThreeAt_0 : decode cX4_hasThreeAt 0 = .ok (.aload_n 0, 1) := by decide +kernel
theorem dX4_hasThreeAt_1 : decode cX4_hasThreeAt 1 = .ok (.iload_n 1, 1) := by decide +kernel
theorem dX4_hasThreeAt_2 : decode cX4_hasThreeAt 2 = .ok (.invokevirtual 28, 3) := by decide +kernel
theorem dX4_hasThreeAt_5 : decode cX4_hasThreeAt 5 = .ok (.bipush (-6), 2) := by decide +kernel
theorem dX4_hasThreeAt_7 : decode cX4_hasThreeAt 7 = .ok (.if_icmp .eq 31, 3) := by decide +kernel
theorem dX4_hasThreeAt_10 : decode cX4_hasThreeAt 10 = .ok (.aload_n 0, 1) := by decide +kernel
theorem dX4_hasThreeAt_11 : decode cX4_hasThreeAt 11 = .ok (.iload_n 1, 1) := by decide +kernel
theorem dX4_hasThreeAt_12 : decode cX4_hasThreeAt 12 = .ok (.iconst 1, 1) := by decide +kernel
theorem dX4_hasThreeAt_13 : decode cX4_hasThreeAt 13 = .ok (.iadd, 1) := by decide +kernel
theorem dX4_hasThreeAt_14 : decode cX4_hasThreeAt 14 = .ok (.invokevirtual 28, 3) := by decide +kernel
theorem dX4_hasThreeAt_17 : decode cX4_hasThreeAt 17 = .ok (.bipush (-6), 2) := by decide +kernel
theorem dX4_hasThreeAt_19 : decode cX4_hasThreeAt 19 = .ok (.if_icmp .eq 19, 3) := by decide +kernel
theorem dX4_hasThreeAt_22 : decode cX4_hasThreeAt 22 = .ok (.aload_n 0, 1) := by decide +kernel
theorem dX4_hasThreeAt_23 : decode cX4_hasThreeAt 23 = .ok (.iload_n 1, 1) := by decide +kernel
theorem dX4_hasThreeAt_24 : decode cX4_hasThreeAt 24 = .ok (.iconst 2, 1) := by decide +kernel
theorem dX4_hasThreeAt_25 : decode cX4_hasThreeAt 25 = .ok (.iadd, 1) := by decide +kernel
theorem dX4_hasThreeAt_26 : decode cX4_hasThreeAt 26 = .ok (.invokevirtual 28, 3) := by decide +kernel
theorem dX4_hasThreeAt_29 : decode cX4_hasThreeAt 29 = .ok (.bipush (-6), 2) := by decide +kernel
theorem dX4_hasThreeAt_31 : decode cX4_hasThreeAt 31 = .ok (.if_icmp .eq 7, 3) := by decide +kernel
theorem dX4_hasThreeAt_34 : decode cX4_hasThreeAt 34 = .ok (.iconst 1, 1) := by decide +kernel
theorem dX4_hasThreeAt_35 : decode cX4_hasThreeAt 35 = .ok (.goto 4, 3) := by decide +kernel
theorem dX4_hasThreeAt_38 : decode cX4_hasThreeAt 38 = .ok (.iconst 0, 1) := by decide +kernel
theorem dX4_hasThreeAt_39 : decode cX4_hasThreeAt 39 = .ok (.ireturn, 1) := by decide +kernel
theorem dX4_headCheck_0 : decode cX4_headCheck 0 = .ok (.iconst 3, 1) := by decide +kernel
theorem dX4_headCheck_1 : decode cX4_headCheck 1 = .ok (.iload_n 0, 1) := by decide +kernel
theorem dX4_headCheck_2 : decode cX4_headCheck 2 = .ok (.imul, 1) := by decide +kernel
theorem dX4_headCheck_3 : decode cX4_headCheck 3 = .ok (.iconst 5, 1) := by decide +kernel
theorem dX4_headCheck_4 : decode cX4_headCheck 4 = .ok (.iload_n 1, 1) := by decide +kernel
theorem dX4_headCheck_5 : decode cX4_headCheck 5 = .ok (.imul, 1) := by decide +kernel
theorem dX4_headCheck_6 : decode cX4_headCheck 6 = .ok (.iadd, 1) := by decide +kernel
theorem dX4_headCheck_7 : decode cX4_headCheck 7 = .ok (.iconst 1, 1) := by decide +kernel
theorem dX4_headCheck_8 : decode cX4_headCheck 8 = .ok (.iadd, 1) := by decide +kernel
theorem dX4_headCheck_9 : decode cX4_headCheck 9 = .ok (.sipush 251, 3) := by decide +kernel
theorem dX4_headCheck_12 : decode cX4_headCheck 12 = .ok (.irem, 1) := by decide +kernel
theorem dX4_headCheck_13 : decode cX4_headCheck 13 = .ok (.ireturn, 1) := by decide +kernel
theorem dX4_recordCheck_0 : decode cX4_recordCheck 0 = .ok (.bipush 7, 2) := by decide +kernel
theorem dX4_recordCheck_2 : decode cX4_recordCheck 2 = .ok (.iload_n 0, 1) := by decide +kernel
theorem dX4_recordCheck_3 : decode cX4_recordCheck 3 = .ok (.imul, 1) := by decide +kernel
theorem dX4_recordCheck_4 : decode cX4_recordCheck 4 = .ok (.bipush 11, 2) := by decide +kernel
theorem dX4_recordCheck_6 : decode cX4_recordCheck 6 = .ok (.iload_n 1, 1) := by decide +kernel
theorem dX4_recordCheck_7 : decode cX4_recordCheck 7 = .ok (.imul, 1) := by decide +kernel
theorem dX4_recordCheck_8 : decode cX4_recordCheck 8 = .ok (.iadd, 1) := by decide +kernel
theorem dX4_recordCheck_9 : decode cX4_recordCheck 9 = .ok (.bipush 13, 2) := by decide +kernel
theorem dX4_recordCheck_11 : decode cX4_recordCheck 11 = .ok (.iload_n 2, 1) := by decide +kernel
theorem dX4_recordCheck_12 : decode cX4_recordCheck 12 = .ok (.imul, 1) := by decide +kernel
theorem dX4_recordCheck_13 : decode cX4_recordCheck 13 = .ok (.iadd, 1) := by decide +kernel
theorem dX4_recordCheck_14 : decode cX4_recordCheck 14 = .ok (.iconst 5, 1) := by decide +kernel
theorem dX4_recordCheck_15 : decode cX4_recordCheck 15 = .ok (.iadd, 1) := by decide +kernel
theorem dX4_recordCheck_16 : decode cX4_recordCheck 16 = .ok (.sipush 251, 3) := by decide +kernel
theorem dX4_recordCheck_19 : decode cX4_recordCheck 19 = .ok (.irem, 1) := by decide +kernel
theorem dX4_recordCheck_20 : decode cX4_recordCheck 20 = .ok (.ireturn, 1) := by decide +kernel
theorem dX5_init_0 : decode cX5_init 0 = .ok (.aload_n 0, 1) := by decide +kernel
theorem dX5_init_1 : decode cX5_init 1 = .ok (.invokespecial 3, 3) := by decide +kernel
theorem dX5_init_4 : decode cX5_init 4 = .ok (.aload_n 0, 1) := by decide +kernel
theorem dX5_init_5 : decode cX5_init 5 = .ok (.bipush 27, 2) := by decide +kernel
theorem dX5_init_7 : decode cX5_init 7 = .ok (.newarray .int, 2) := by decide +kernel
theorem dX5_init_9 : decode cX5_init 9 = .ok (.putfield 9, 3) := by decide +kernel
theorem dX5_init_12 : decode cX5_init 12 = .ok (.aload_n 0, 1) := by decide +kernel
theorem dX5_init_13 : decode cX5_init 13 = .ok (.bipush 27, 2) := by decide +kernel
theorem dX5_init_15 : decode cX5_init 15 = .ok (.newarray .int, 2) := by decide +kernel
theorem dX5_init_17 : decode cX5_init 17 = .ok (.putfield 15, 3) := by decide +kernel
theorem dX5_init_20 : decode cX5_init 20 = .ok (.aload_n 0, 1) := by decide +kernel
theorem dX5_init_21 : decode cX5_init 21 = .ok (.bipush 27, 2) := by decide +kernel
theorem dX5_init_23 : decode cX5_init 23 = .ok (.newarray .int, 2) := by decide +kernel
theorem dX5_init_25 : decode cX5_init 25 = .ok (.putfield 18, 3) := by decide +kernel
theorem dX5_init_28 : decode cX5_init 28 = .ok (.aload_n 0, 1) := by decide +kernel
theorem dX5_init_29 : decode cX5_init 29 = .ok (.bipush 27, 2) := by decide +kernel
theorem dX5_init_31 : decode cX5_init 31 = .ok (.newarray .int, 2) := by decide +kernel
theorem dX5_init_33 : decode cX5_init 33 = .ok (.putfield 21, 3) := by decide +kernel
theorem dX5_init_36 : decode cX5_init 36 = .ok (.return_, 1) := by decide +kernel
theorem dX5_clear_0 : decode cX5_clear 0 = .ok (.aload_n 0, 1) := by decide +kernel
theorem dX5_clear_1 : decode cX5_clear 1 = .ok (.iconst 0, 1) := by decide +kernel
theorem dX5_clear_2 : decode cX5_clear 2 = .ok (.putfield 24, 3) := by decide +kernel
theorem dX5_clear_5 : decode cX5_clear 5 = .ok (.return_, 1) := by decide +kernel
theorem dX5_append_0 : decode cX5_append 0 = .ok (.aload_n 0, 1) := by decide +kernel
theorem dX5_append_1 : decode cX5_append 1 = .ok (.getfield 24, 3) := by decide +kernel
theorem dX5_append_4 : decode cX5_append 4 = .ok (.bipush 27, 2) := by decide +kernel
theorem dX5_append_6 : decode cX5_append 6 = .ok (.if_icmp .lt 4, 3) := by decide +kernel
theorem dX5_append_9 : decode cX5_append 9 = .ok (.return_, 1) := by decide +kernel
theorem dX5_append_10 : decode cX5_append 10 = .ok (.aload_n 0, 1) := by decide +kernel
theorem dX5_append_11 : decode cX5_append 11 = .ok (.getfield 9, 3) := by decide +kernel
theorem dX5_append_14 : decode cX5_append 14 = .ok (.aload_n 0, 1) := by decide +kernel
theorem dX5_append_15 : decode cX5_append 15 = .ok (.getfield 24, 3) := by decide +kernel
theorem dX5_append_18 : decode cX5_append 18 = .ok (.iload_n 1, 1) := by decide +kernel
theorem dX5_append_19 : decode cX5_append 19 = .ok (.iastore, 1) := by decide +kernel
theorem dX5_append_20 : decode cX5_append 20 = .ok (.aload_n 0, 1) := by decide +kernel
theorem dX5_append_21 : decode cX5_append 21 = .ok (.getfield 15, 3) := by decide +kernel
theorem dX5_append_24 : decode cX5_append 24 = .ok (.aload_n 0, 1) := by decide +kernel
theorem dX5_append_25 : decode cX5_append 25 = .ok (.getfield 24, 3) := by decide +kernel
theorem dX5_append_28 : decode cX5_append 28 = .ok (.iload_n 2, 1) := by decide +kernel
theorem dX5_append_29 : decode cX5_append 29 = .ok (.iastore, 1) := by decide +kernel
theorem dX5_append_30 : decode cX5_append 30 = .ok (.aload_n 0, 1) := by decide +kernel
theorem dX5_append_31 : decode cX5_append 31 = .ok (.getfield 18, 3) := by decide +kernel
theorem dX5_append_34 : decode cX5_append 34 = .ok (.aload_n 0, 1) := by decide +kernel
theorem dX5_append_35 : decode cX5_append 35 = .ok (.getfield 24, 3) := by decide +kernel
theorem dX5_append_38 : decode cX5_append 38 = .ok (.iload_n 3, 1) := by decide +kernel
theorem dX5_append_39 : decode cX5_append 39 = .ok (.iastore, 1) := by decide +kernel
theorem dX5_append_40 : decode cX5_append 40 = .ok (.aload_n 0, 1) := by decide +kernel
theorem dX5_append_41 : decode cX5_append 41 = .ok (.getfield 21, 3) := by decide +kernel
theorem dX5_append_44 : decode cX5_append 44 = .ok (.aload_n 0, 1) := by decide +kernel
theorem dX5_append_45 : decode cX5_append 45 = .ok (.getfield 24, 3) := by decide +kernel
theorem dX5_append_48 : decode cX5_append 48 = .ok (.iload 4, 2) := by decide +kernel
theorem dX5_append_50 : decode cX5_append 50 = .ok (.iastore, 1) := by decide +kernel
theorem dX5_append_51 : decode cX5_append 51 = .ok (.aload_n 0, 1) := by decide +kernel
theorem dX5_append_52 : decode cX5_append 52 = .ok (.dup, 1) := by decide +kernel
theorem dX5_append_53 : decode cX5_append 53 = .ok (.getfield 24, 3) := by decide +kernel
theorem dX5_append_56 : decode cX5_append 56 = .ok (.iconst 1, 1) := by decide +kernel
theorem dX5_append_57 : decode cX5_append 57 = .ok (.iadd, 1) := by decide +kernel
theorem dX5_append_58 : decode cX5_append 58 = .ok (.putfield 24, 3) := by decide +kernel
theorem dX5_append_61 : decode cX5_append 61 = .ok (.return_, 1) := by decide +kernel
theorem dX5_copyFrom_0 : decode cX5_copyFrom 0 = .ok (.aload_n 1, 1) := by decide +kernel
theorem dX5_copyFrom_1 : decode cX5_copyFrom 1 = .ok (.getfield 9, 3) := by decide +kernel
theorem dX5_copyFrom_4 : decode cX5_copyFrom 4 = .ok (.iconst 0, 1) := by decide +kernel
theorem dX5_copyFrom_5 : decode cX5_copyFrom 5 = .ok (.aload_n 0, 1) := by decide +kernel
theorem dX5_copyFrom_6 : decode cX5_copyFrom 6 = .ok (.getfield 9, 3) := by decide +kernel
theorem dX5_copyFrom_9 : decode cX5_copyFrom 9 = .ok (.iconst 0, 1) := by decide +kernel
theorem dX5_copyFrom_10 : decode cX5_copyFrom 10 = .ok (.bipush 27, 2) := by decide +kernel
theorem dX5_copyFrom_12 : decode cX5_copyFrom 12 = .ok (.invokestatic 28, 3) := by decide +kernel
theorem dX5_copyFrom_15 : decode cX5_copyFrom 15 = .ok (.aload_n 1, 1) := by decide +kernel
theorem dX5_copyFrom_16 : decode cX5_copyFrom 16 = .ok (.getfield 15, 3) := by decide +kernel
theorem dX5_copyFrom_19 : decode cX5_copyFrom 19 = .ok (.iconst 0, 1) := by decide +kernel
theorem dX5_copyFrom_20 : decode cX5_copyFrom 20 = .ok (.aload_n 0, 1) := by decide +kernel
theorem dX5_copyFrom_21 : decode cX5_copyFrom 21 = .ok (.getfield 15, 3) := by decide +kernel
theorem dX5_copyFrom_24 : decode cX5_copyFrom 24 = .ok (.iconst 0, 1) := by decide +kernel
theorem dX5_copyFrom_25 : decode cX5_copyFrom 25 = .ok (.bipush 27, 2) := by decide +kernel
theorem dX5_copyFrom_27 : decode cX5_copyFrom 27 = .ok (.invokestatic 28, 3) := by decide +kernel
theorem dX5_copyFrom_30 : decode cX5_copyFrom 30 = .ok (.aload_n 1, 1) := by decide +kernel
theorem dX5_copyFrom_31 : decode cX5_copyFrom 31 = .ok (.getfield 18, 3) := by decide +kernel
theorem dX5_copyFrom_34 : decode cX5_copyFrom 34 = .ok (.iconst 0, 1) := by decide +kernel
theorem dX5_copyFrom_35 : decode cX5_copyFrom 35 = .ok (.aload_n 0, 1) := by decide +kernel
theorem dX5_copyFrom_36 : decode cX5_copyFrom 36 = .ok (.getfield 18, 3) := by decide +kernel
theorem dX5_copyFrom_39 : decode cX5_copyFrom 39 = .ok (.iconst 0, 1) := by decide +kernel
theorem dX5_copyFrom_40 : decode cX5_copyFrom 40 = .ok (.bipush 27, 2) := by decide +kernel
theorem dX5_copyFrom_42 : decode cX5_copyFrom 42 = .ok (.invokestatic 28, 3) := by decide +kernel
theorem dX5_copyFrom_45 : decode cX5_copyFrom 45 = .ok (.aload_n 1, 1) := by decide +kernel
theorem dX5_copyFrom_46 : decode cX5_copyFrom 46 = .ok (.getfield 21, 3) := by decide +kernel
theorem dX5_copyFrom_49 : decode cX5_copyFrom 49 = .ok (.iconst 0, 1) := by decide +kernel
theorem dX5_copyFrom_50 : decode cX5_copyFrom 50 = .ok (.aload_n 0, 1) := by decide +kernel
theorem dX5_copyFrom_51 : decode cX5_copyFrom 51 = .ok (.getfield 21, 3) := by decide +kernel
theorem dX5_copyFrom_54 : decode cX5_copyFrom 54 = .ok (.iconst 0, 1) := by decide +kernel
theorem dX5_copyFrom_55 : decode cX5_copyFrom 55 = .ok (.bipush 27, 2) := by decide +kernel
theorem dX5_copyFrom_57 : decode cX5_copyFrom 57 = .ok (.invokestatic 28, 3) := by decide +kernel
theorem dX5_copyFrom_60 : decode cX5_copyFrom 60 = .ok (.aload_n 0, 1) := by decide +kernel
theorem dX5_copyFrom_61 : decode cX5_copyFrom 61 = .ok (.aload_n 1, 1) := by decide +kernel
theorem dX5_copyFrom_62 : decode cX5_copyFrom 62 = .ok (.getfield 24, 3) := by decide +kernel
theorem dX5_copyFrom_65 : decode cX5_copyFrom 65 = .ok (.putfield 24, 3) := by decide +kernel
theorem dX5_copyFrom_68 : decode cX5_copyFrom 68 = .ok (.return_, 1) := by decide +kernel
theorem dX5_applyTo_0 : decode cX5_applyTo 0 = .ok (.iconst 0, 1) := by decide +kernel
theorem dX5_applyTo_1 : decode cX5_applyTo 1 = .ok (.istore_n 2, 1) := by decide +kernel
theorem dX5_applyTo_2 : decode cX5_applyTo 2 = .ok (.iload_n 2, 1) := by decide +kernel
theorem dX5_applyTo_3 : decode cX5_applyTo 3 = .ok (.aload_n 0, 1) := by decide +kernel
theorem dX5_applyTo_4 : decode cX5_applyTo 4 = .ok (.getfield 24, 3) := by decide +kernel
theorem dX5_applyTo_7 : decode cX5_applyTo 7 = .ok (.if_icmp .ge 48, 3) := by decide +kernel
theorem dX5_applyTo_10 : decode cX5_applyTo 10 = .ok (.iload_n 2, 1) := by decide +kernel
theorem dX5_applyTo_11 : decode cX5_applyTo 11 = .ok (.bipush 27, 2) := by decide +kernel
theorem dX5_applyTo_13 : decode cX5_applyTo 13 = .ok (.if_icmp .ge 42, 3) := by decide +kernel
theorem dX5_applyTo_16 : decode cX5_applyTo 16 = .ok (.aload_n 1, 1) := by decide +kernel
theorem dX5_applyTo_17 : decode cX5_applyTo 17 = .ok (.aload_n 0, 1) := by decide +kernel
theorem dX5_applyTo_18 : decode cX5_applyTo 18 = .ok (.getfield 9, 3) := by decide +kernel
theorem dX5_applyTo_21 : decode cX5_applyTo 21 = .ok (.iload_n 2, 1) := by decide +kernel
theorem dX5_applyTo_22 : decode cX5_applyTo 22 = .ok (.iaload, 1) := by decide +kernel
theorem dX5_applyTo_23 : decode cX5_applyTo 23 = .ok (.aload_n 0, 1) := by decide +kernel
theorem dX5_applyTo_24 : decode cX5_applyTo 24 = .ok (.getfield 15, 3) := by decide +kernel
theorem dX5_applyTo_27 : decode cX5_applyTo 27 = .ok (.iload_n 2, 1) := by decide +kernel
theorem dX5_applyTo_28 : decode cX5_applyTo 28 = .ok (.iaload, 1) := by decide +kernel
theorem dX5_applyTo_29 : decode cX5_applyTo 29 = .ok (.aload_n 0, 1) := by decide +kernel
theorem dX5_applyTo_30 : decode cX5_applyTo 30 = .ok (.getfield 18, 3) := by decide +kernel
theorem dX5_applyTo_33 : decode cX5_applyTo 33 = .ok (.iload_n 2, 1) := by decide +kernel
theorem dX5_applyTo_34 : decode cX5_applyTo 34 = .ok (.iaload, 1) := by decide +kernel
theorem dX5_applyTo_35 : decode cX5_applyTo 35 = .ok (.aload_n 0, 1) := by decide +kernel
theorem dX5_applyTo_36 : decode cX5_applyTo 36 = .ok (.getfield 21, 3) := by decide +kernel
theorem dX5_applyTo_39 : decode cX5_applyTo 39 = .ok (.iload_n 2, 1) := by decide +kernel
theorem dX5_applyTo_40 : decode cX5_applyTo 40 = .ok (.iaload, 1) := by decide +kernel
theorem dX5_applyTo_41 : decode cX5_applyTo 41 = .ok (.invokestatic 34, 3) := by decide +kernel
theorem dX5_applyTo_44 : decode cX5_applyTo 44 = .ok (.ifCond .ne 5, 3) := by decide +kernel
theorem dX5_applyTo_47 : decode cX5_applyTo 47 = .ok (.iconst 0, 1) := by decide +kernel
theorem dX5_applyTo_48 : decode cX5_applyTo 48 = .ok (.ireturn, 1) := by decide +kernel
theorem dX5_applyTo_49 : decode cX5_applyTo 49 = .ok (.iinc 2 1, 3) := by decide +kernel
theorem dX5_applyTo_52 : decode cX5_applyTo 52 = .ok (.goto (-50), 3) := by decide +kernel
theorem dX5_applyTo_55 : decode cX5_applyTo 55 = .ok (.iconst 1, 1) := by decide +kernel
theorem dX5_applyTo_56 : decode cX5_applyTo 56 = .ok (.ireturn, 1) := by decide +kernel
theorem dX5_applyStep_0 : decode cX5_applyStep 0 = .ok (.iload_n 1, 1) := by decide +kernel
theorem dX5_applyStep_1 : decode cX5_applyStep 1 = .ok (.tableswitch 49 0 2 #[27, 36, 42], 27) := by decide +kernel
theorem dX5_applyStep_28 : decode cX5_applyStep 28 = .ok (.aload_n 0, 1) := by decide +kernel
theorem dX5_applyStep_29 : decode cX5_applyStep 29 = .ok (.iload_n 2, 1) := by decide +kernel
theorem dX5_applyStep_30 : decode cX5_applyStep 30 = .ok (.iload_n 3, 1) := by decide +kernel
theorem dX5_applyStep_31 : decode cX5_applyStep 31 = .ok (.iload 4, 2) := by decide +kernel
theorem dX5_applyStep_33 : decode cX5_applyStep 33 = .ok (.invokevirtual 38, 3) := by decide +kernel
theorem dX5_applyStep_36 : decode cX5_applyStep 36 = .ok (.ireturn, 1) := by decide +kernel
theorem dX5_applyStep_37 : decode cX5_applyStep 37 = .ok (.aload_n 0, 1) := by decide +kernel
theorem dX5_applyStep_38 : decode cX5_applyStep 38 = .ok (.iload_n 2, 1) := by decide +kernel
theorem dX5_applyStep_39 : decode cX5_applyStep 39 = .ok (.invokevirtual 44, 3) := by decide +kernel
theorem dX5_applyStep_42 : decode cX5_applyStep 42 = .ok (.ireturn, 1) := by decide +kernel
theorem dX5_applyStep_43 : decode cX5_applyStep 43 = .ok (.aload_n 0, 1) := by decide +kernel
theorem dX5_applyStep_44 : decode cX5_applyStep 44 = .ok (.iload_n 2, 1) := by decide +kernel
theorem dX5_applyStep_45 : decode cX5_applyStep 45 = .ok (.iload_n 3, 1) := by decide +kernel
theorem dX5_applyStep_46 : decode cX5_applyStep 46 = .ok (.invokevirtual 48, 3) := by decide +kernel
theorem dX5_applyStep_49 : decode cX5_applyStep 49 = .ok (.ireturn, 1) := by decide +kernel
theorem dX5_applyStep_50 : decode cX5_applyStep 50 = .ok (.aload_n 0, 1) := by decide +kernel
theorem dX5_applyStep_51 : decode cX5_applyStep 51 = .ok (.iload_n 2, 1) := by decide +kernel
theorem dX5_applyStep_52 : decode cX5_applyStep 52 = .ok (.iload_n 1, 1) := by decide +kernel
theorem dX5_applyStep_53 : decode cX5_applyStep 53 = .ok (.iload_n 3, 1) := by decide +kernel
theorem dX5_applyStep_54 : decode cX5_applyStep 54 = .ok (.invokevirtual 52, 3) := by decide +kernel
theorem dX5_applyStep_57 : decode cX5_applyStep 57 = .ok (.ireturn, 1) := by decide +kernel
theorem dX5_carryOver_0 : decode cX5_carryOver 0 = .ok (.iconst 0, 1) := by decide +kernel
theorem dX5_carryOver_1 : decode cX5_carryOver 1 = .ok (.istore_n 2, 1) := by decide +kernel
theorem dX5_carryOver_2 : decode cX5_carryOver 2 = .ok (.iload_n 2, 1) := by decide +kernel
theorem dX5_carryOver_3 : decode cX5_carryOver 3 = .ok (.aload_n 0, 1) := by decide +kernel
theorem dX5_carryOver_4 : decode cX5_carryOver 4 = .ok (.getfield 24, 3) := by decide +kernel
theorem dX5_carryOver_7 : decode cX5_carryOver 7 = .ok (.if_icmp .ge 129, 3) := by decide +kernel
theorem dX5_carryOver_10 : decode cX5_carryOver 10 = .ok (.iload_n 2, 1) := by decide +kernel
theorem dX5_carryOver_11 : decode cX5_carryOver 11 = .ok (.bipush 27, 2) := by decide +kernel
theorem dX5_carryOver_13 : decode cX5_carryOver 13 = .ok (.if_icmp .ge 123, 3) := by decide +kernel
theorem dX5_carryOver_16 : decode cX5_carryOver 16 = .ok (.aload_n 0, 1) := by decide +kernel
theorem dX5_carryOver_17 : decode cX5_carryOver 17 = .ok (.getfield 15, 3) := by decide +kernel
theorem dX5_carryOver_20 : decode cX5_carryOver 20 = .ok (.iload_n 2, 1) := by decide +kernel
theorem dX5_carryOver_21 : decode cX5_carryOver 21 = .ok (.iaload, 1) := by decide +kernel
theorem dX5_carryOver_22 : decode cX5_carryOver 22 = .ok (.istore_n 3, 1) := by decide +kernel
theorem dX5_carryOver_23 : decode cX5_carryOver 23 = .ok (.aload_n 0, 1) := by decide +kernel
theorem dX5_carryOver_24 : decode cX5_carryOver 24 = .ok (.getfield 18, 3) := by decide +kernel
theorem dX5_carryOver_27 : decode cX5_carryOver 27 = .ok (.iload_n 2, 1) := by decide +kernel
theorem dX5_carryOver_28 : decode cX5_carryOver 28 = .ok (.iaload, 1) := by decide +kernel
theorem dX5_carryOver_29 : decode cX5_carryOver 29 = .ok (.istore 4, 2) := by decide +kernel
theorem dX5_carryOver_31 : decode cX5_carryOver 31 = .ok (.iload_n 3, 1) := by decide +kernel
theorem dX5_carryOver_32 : decode cX5_carryOver 32 = .ok (.invokestatic 55, 3) := by decide +kernel
theorem dX5_carryOver_35 : decode cX5_carryOver 35 = .ok (.ifCond .eq 95, 3) := by decide +kernel
theorem dX5_carryOver_38 : decode cX5_carryOver 38 = .ok (.iload_n 3, 1) := by decide +kernel
theorem dX5_carryOver_39 : decode cX5_carryOver 39 = .ok (.aload_n 1, 1) := by decide +kernel
theorem dX5_carryOver_40 : decode cX5_carryOver 40 = .ok (.arraylength, 1) := by decide +kernel
theorem dX5_carryOver_41 : decode cX5_carryOver 41 = .ok (.if_icmp .lt 6, 3) := by decide +kernel
theorem dX5_carryOver_44 : decode cX5_carryOver 44 = .ok (.goto 86, 3) := by decide +kernel
theorem dX5_carryOver_47 : decode cX5_carryOver 47 = .ok (.aload_n 0, 1) := by decide +kernel
theorem dX5_carryOver_48 : decode cX5_carryOver 48 = .ok (.getfield 9, 3) := by decide +kernel
theorem dX5_carryOver_51 : decode cX5_carryOver 51 = .ok (.iload_n 2, 1) := by decide +kernel
theorem dX5_carryOver_52 : decode cX5_carryOver 52 = .ok (.iaload, 1) := by decide +kernel
theorem dX5_carryOver_53 : decode cX5_carryOver 53 = .ok (.ifCond .ne 15, 3) := by decide +kernel
theorem dX5_carryOver_56 : decode cX5_carryOver 56 = .ok (.aload_n 1, 1) := by decide +kernel
theorem dX5_carryOver_57 : decode cX5_carryOver 57 = .ok (.iload_n 3, 1) := by decide +kernel
theorem dX5_carryOver_58 : decode cX5_carryOver 58 = .ok (.aload_n 0, 1) := by decide +kernel
theorem dX5_carryOver_59 : decode cX5_carryOver 59 = .ok (.getfield 21, 3) := by decide +kernel
theorem dX5_carryOver_62 : decode cX5_carryOver 62 = .ok (.iload_n 2, 1) := by decide +kernel
theorem dX5_carryOver_63 : decode cX5_carryOver 63 = .ok (.iaload, 1) := by decide +kernel
theorem dX5_carryOver_64 : decode cX5_carryOver 64 = .ok (.iastore, 1) := by decide +kernel
theorem dX5_carryOver_65 : decode cX5_carryOver 65 = .ok (.goto 65, 3) := by decide +kernel
theorem dX5_carryOver_68 : decode cX5_carryOver 68 = .ok (.aload_n 0, 1) := by decide +kernel
theorem dX5_carryOver_69 : decode cX5_carryOver 69 = .ok (.getfield 9, 3) := by decide +kernel
theorem dX5_carryOver_72 : decode cX5_carryOver 72 = .ok (.iload_n 2, 1) := by decide +kernel
theorem dX5_carryOver_73 : decode cX5_carryOver 73 = .ok (.iaload, 1) := by decide +kernel
theorem dX5_carryOver_74 : decode cX5_carryOver 74 = .ok (.iconst 2, 1) := by decide +kernel
theorem dX5_carryOver_75 : decode cX5_carryOver 75 = .ok (.if_icmp .ne 28, 3) := by decide +kernel
theorem dX5_carryOver_78 : decode cX5_carryOver 78 = .ok (.iload 4, 2) := by decide +kernel
theorem dX5_carryOver_80 : decode cX5_carryOver 80 = .ok (.invokestatic 55, 3) := by decide +kernel
theorem dX5_carryOver_83 : decode cX5_carryOver 83 = .ok (.ifCond .eq 47, 3) := by decide +kernel
theorem dX5_carryOver_86 : decode cX5_carryOver 86 = .ok (.iload 4, 2) := by decide +kernel
theorem dX5_carryOver_88 : decode cX5_carryOver 88 = .ok (.aload_n 1, 1) := by decide +kernel
theorem dX5_carryOver_89 : decode cX5_carryOver 89 = .ok (.arraylength, 1) := by decide +kernel
theorem dX5_carryOver_90 : decode cX5_carryOver 90 = .ok (.if_icmp .ge 40, 3) := by decide +kernel
theorem dX5_carryOver_93 : decode cX5_carryOver 93 = .ok (.aload_n 1, 1) := by decide +kernel
theorem dX5_carryOver_94 : decode cX5_carryOver 94 = .ok (.iload 4, 2) := by decide +kernel
theorem dX5_carryOver_96 : decode cX5_carryOver 96 = .ok (.aload_n 1, 1) := by decide +kernel
theorem dX5_carryOver_97 : decode cX5_carryOver 97 = .ok (.iload_n 3, 1) := by decide +kernel
theorem dX5_carryOver_98 : decode cX5_carryOver 98 = .ok (.iaload, 1) := by decide +kernel
theorem dX5_carryOver_99 : decode cX5_carryOver 99 = .ok (.iastore, 1) := by decide +kernel
theorem dX5_carryOver_100 : decode cX5_carryOver 100 = .ok (.goto 30, 3) := by decide +kernel
theorem dX5_carryOver_103 : decode cX5_carryOver 103 = .ok (.aload_n 0, 1) := by decide +kernel
theorem dX5_carryOver_104 : decode cX5_carryOver 104 = .ok (.getfield 9, 3) := by decide +kernel
theorem dX5_carryOver_107 : decode cX5_carryOver 107 = .ok (.iload_n 2, 1) := by decide +kernel
theorem dX5_carryOver_108 : decode cX5_carryOver 108 = .ok (.iaload, 1) := by decide +kernel
theorem dX5_carryOver_109 : decode cX5_carryOver 109 = .ok (.iconst 1, 1) := by decide +kernel
theorem dX5_carryOver_110 : decode cX5_carryOver 110 = .ok (.if_icmp .eq 20, 3) := by decide +kernel
theorem dX5_carryOver_113 : decode cX5_carryOver 113 = .ok (.aload_n 1, 1) := by decide +kernel
theorem dX5_carryOver_114 : decode cX5_carryOver 114 = .ok (.iload_n 3, 1) := by decide +kernel
theorem dX5_carryOver_115 : decode cX5_carryOver 115 = .ok (.aload_n 0, 1) := by decide +kernel
theorem dX5_carryOver_116 : decode cX5_carryOver 116 = .ok (.getfield 9, 3) := by decide +kernel
theorem dX5_carryOver_119 : decode cX5_carryOver 119 = .ok (.iload_n 2, 1) := by decide +kernel
theorem dX5_carryOver_120 : decode cX5_carryOver 120 = .ok (.iaload, 1) := by decide +kernel
theorem dX5_carryOver_121 : decode cX5_carryOver 121 = .ok (.iload 4, 2) := by decide +kernel
theorem dX5_carryOver_123 : decode cX5_carryOver 123 = .ok (.aload_n 1, 1) := by decide +kernel
theorem dX5_carryOver_124 : decode cX5_carryOver 124 = .ok (.iload_n 3, 1) := by decide +kernel
theorem dX5_carryOver_125 : decode cX5_carryOver 125 = .ok (.iaload, 1) := by decide +kernel
theorem dX5_carryOver_126 : decode cX5_carryOver 126 = .ok (.invokestatic 58, 3) := by decide +kernel
theorem dX5_carryOver_129 : decode cX5_carryOver 129 = .ok (.iastore, 1) := by decide +kernel
theorem dX5_carryOver_130 : decode cX5_carryOver 130 = .ok (.iinc 2 1, 3) := by decide +kernel
theorem dX5_carryOver_133 : decode cX5_carryOver 133 = .ok (.goto (-131), 3) := by decide +kernel
theorem dX5_carryOver_136 : decode cX5_carryOver 136 = .ok (.return_, 1) := by decide +kernel
theorem dX5_scaled_0 : decode cX5_scaled 0 = .ok (.iload_n 0, 1) := by decide +kernel
theorem dX5_scaled_1 : decode cX5_scaled 1 = .ok (.iconst 3, 1) := by decide +kernel
theorem dX5_scaled_2 : decode cX5_scaled 2 = .ok (.if_icmp .ne 13, 3) := by decide +kernel
theorem dX5_scaled_5 : decode cX5_scaled 5 = .ok (.iload_n 2, 1) := by decide +kernel
theorem dX5_scaled_6 : decode cX5_scaled 6 = .ok (.iload_n 1, 1) := by decide +kernel
theorem dX5_scaled_7 : decode cX5_scaled 7 = .ok (.imul, 1) := by decide +kernel
theorem dX5_scaled_8 : decode cX5_scaled 8 = .ok (.sipush 255, 3) := by decide +kernel
theorem dX5_scaled_11 : decode cX5_scaled 11 = .ok (.invokestatic 62, 3) := by decide +kernel
theorem dX5_scaled_14 : decode cX5_scaled 14 = .ok (.ireturn, 1) := by decide +kernel
theorem dX5_scaled_15 : decode cX5_scaled 15 = .ok (.iload_n 0, 1) := by decide +kernel
theorem dX5_scaled_16 : decode cX5_scaled 16 = .ok (.iconst 4, 1) := by decide +kernel
theorem dX5_scaled_17 : decode cX5_scaled 17 = .ok (.if_icmp .ne 16, 3) := by decide +kernel
theorem dX5_scaled_20 : decode cX5_scaled 20 = .ok (.iload_n 1, 1) := by decide +kernel
theorem dX5_scaled_21 : decode cX5_scaled 21 = .ok (.iconst 1, 1) := by decide +kernel
theorem dX5_scaled_22 : decode cX5_scaled 22 = .ok (.if_icmp .ge 7, 3) := by decide +kernel
theorem dX5_scaled_25 : decode cX5_scaled 25 = .ok (.iload_n 2, 1) := by decide +kernel
theorem dX5_scaled_26 : decode cX5_scaled 26 = .ok (.goto 6, 3) := by decide +kernel
theorem dX5_scaled_29 : decode cX5_scaled 29 = .ok (.iload_n 2, 1) := by decide +kernel
theorem dX5_scaled_30 : decode cX5_scaled 30 = .ok (.iload_n 1, 1) := by decide +kernel
theorem dX5_scaled_31 : decode cX5_scaled 31 = .ok (.idiv, 1) := by decide +kernel
theorem dX5_scaled_32 : decode cX5_scaled 32 = .ok (.ireturn, 1) := by decide +kernel
theorem dX5_scaled_33 : decode cX5_scaled 33 = .ok (.iload_n 2, 1) := by decide +kernel
theorem dX5_scaled_34 : decode cX5_scaled 34 = .ok (.iload_n 1, 1) := by decide +kernel
theorem dX5_scaled_35 : decode cX5_scaled 35 = .ok (.invokestatic 62, 3) := by decide +kernel
theorem dX5_scaled_38 : decode cX5_scaled 38 = .ok (.ireturn, 1) := by decide +kernel
theorem dX6_init_0 : decode cX6_init 0 = .ok (.aload_n 0, 1) := by decide +kernel
theorem dX6_init_1 : decode cX6_init 1 = .ok (.invokespecial 1, 3) := by decide +kernel
theorem dX6_init_4 : decode cX6_init 4 = .ok (.aload_n 0, 1) := by decide +kernel
theorem dX6_init_5 : decode cX6_init 5 = .ok (.new 7, 3) := by decide +kernel
theorem dX6_init_8 : decode cX6_init 8 = .ok (.dup, 1) := by decide +kernel
theorem dX6_init_9 : decode cX6_init 9 = .ok (.invokespecial 9, 3) := by decide +kernel
theorem dX6_init_12 : decode cX6_init 12 = .ok (.putfield 10, 3) := by decide +kernel
theorem dX6_init_15 : decode cX6_init 15 = .ok (.aload_n 0, 1) := by decide +kernel
theorem dX6_init_16 : decode cX6_init 16 = .ok (.new 16, 3) := by decide +kernel
theorem dX6_init_19 : decode cX6_init 19 = .ok (.dup, 1) := by decide +kernel
theorem dX6_init_20 : decode cX6_init 20 = .ok (.invokespecial 18, 3) := by decide +kernel
theorem dX6_init_23 : decode cX6_init 23 = .ok (.putfield 19, 3) := by decide +kernel
theorem dX6_init_26 : decode cX6_init 26 = .ok (.aload_n 0, 1) := by decide +kernel
theorem dX6_init_27 : decode cX6_init 27 = .ok (.new 23, 3) := by decide +kernel
theorem dX6_init_30 : decode cX6_init 30 = .ok (.dup, 1) := by decide +kernel
theorem dX6_init_31 : decode cX6_init 31 = .ok (.aload_n 0, 1) := by decide +kernel
theorem dX6_init_32 : decode cX6_init 32 = .ok (.getfield 19, 3) := by decide +kernel
theorem dX6_init_35 : decode cX6_init 35 = .ok (.invokespecial 25, 3) := by decide +kernel
theorem dX6_init_38 : decode cX6_init 38 = .ok (.putfield 28, 3) := by decide +kernel
theorem dX6_init_41 : decode cX6_init 41 = .ok (.aload_n 0, 1) := by decide +kernel
theorem dX6_init_42 : decode cX6_init 42 = .ok (.new 23, 3) := by decide +kernel
theorem dX6_init_45 : decode cX6_init 45 = .ok (.dup, 1) := by decide +kernel
theorem dX6_init_46 : decode cX6_init 46 = .ok (.aload_n 0, 1) := by decide +kernel
theorem dX6_init_47 : decode cX6_init 47 = .ok (.getfield 19, 3) := by decide +kernel
theorem dX6_init_50 : decode cX6_init 50 = .ok (.invokespecial 25, 3) := by decide +kernel
theorem dX6_init_53 : decode cX6_init 53 = .ok (.putfield 32, 3) := by decide +kernel
theorem dX6_init_56 : decode cX6_init 56 = .ok (.aload_n 0, 1) := by decide +kernel
theorem dX6_init_57 : decode cX6_init 57 = .ok (.iconst 2, 1) := by decide +kernel
theorem dX6_init_58 : decode cX6_init 58 = .ok (.anewarray 23, 3) := by decide +kernel
theorem dX6_init_61 : decode cX6_init 61 = .ok (.putfield 35, 3) := by decide +kernel
theorem dX6_init_64 : decode cX6_init 64 = .ok (.iconst 0, 1) := by decide +kernel
theorem dX6_init_65 : decode cX6_init 65 = .ok (.istore_n 1, 1) := by decide +kernel
theorem dX6_init_66 : decode cX6_init 66 = .ok (.iload_n 1, 1) := by decide +kernel
theorem dX6_init_67 : decode cX6_init 67 = .ok (.iconst 2, 1) := by decide +kernel
theorem dX6_init_68 : decode cX6_init 68 = .ok (.if_icmp .ge 26, 3) := by decide +kernel
theorem dX6_init_71 : decode cX6_init 71 = .ok (.aload_n 0, 1) := by decide +kernel
theorem dX6_init_72 : decode cX6_init 72 = .ok (.getfield 35, 3) := by decide +kernel
theorem dX6_init_75 : decode cX6_init 75 = .ok (.iload_n 1, 1) := by decide +kernel
theorem dX6_init_76 : decode cX6_init 76 = .ok (.new 23, 3) := by decide +kernel
theorem dX6_init_79 : decode cX6_init 79 = .ok (.dup, 1) := by decide +kernel
theorem dX6_init_80 : decode cX6_init 80 = .ok (.aload_n 0, 1) := by decide +kernel
theorem dX6_init_81 : decode cX6_init 81 = .ok (.getfield 19, 3) := by decide +kernel
theorem dX6_init_84 : decode cX6_init 84 = .ok (.invokespecial 25, 3) := by decide +kernel
theorem dX6_init_87 : decode cX6_init 87 = .ok (.aastore, 1) := by decide +kernel
theorem dX6_init_88 : decode cX6_init 88 = .ok (.iinc 1 1, 3) := by decide +kernel
theorem dX6_init_91 : decode cX6_init 91 = .ok (.goto (-25), 3) := by decide +kernel
theorem dX6_init_94 : decode cX6_init 94 = .ok (.aload_n 0, 1) := by decide +kernel
theorem dX6_init_95 : decode cX6_init 95 = .ok (.iconst 2, 1) := by decide +kernel
theorem dX6_init_96 : decode cX6_init 96 = .ok (.newarray .boolean, 2) := by decide +kernel
theorem dX6_init_98 : decode cX6_init 98 = .ok (.putfield 39, 3) := by decide +kernel
theorem dX6_init_101 : decode cX6_init 101 = .ok (.return_, 1) := by decide +kernel
theorem dX6_define_0 : decode cX6_define 0 = .ok (.aload_n 0, 1) := by decide +kernel
theorem dX6_define_1 : decode cX6_define 1 = .ok (.getfield 10, 3) := by decide +kernel
theorem dX6_define_4 : decode cX6_define 4 = .ok (.invokevirtual 43, 3) := by decide +kernel
theorem dX6_define_7 : decode cX6_define 7 = .ok (.bipush (-6), 2) := by decide +kernel
theorem dX6_define_9 : decode cX6_define 9 = .ok (.if_icmp .eq 6, 3) := by decide +kernel
theorem dX6_define_12 : decode cX6_define 12 = .ok (.bipush (-3), 2) := by decide +kernel
theorem dX6_define_14 : decode cX6_define 14 = .ok (.ireturn, 1) := by decide +kernel
theorem dX6_define_15 : decode cX6_define 15 = .ok (.aload_n 0, 1) := by decide +kernel
theorem dX6_define_16 : decode cX6_define 16 = .ok (.getfield 19, 3) := by decide +kernel
theorem dX6_define_19 : decode cX6_define 19 = .ok (.invokevirtual 47, 3) := by decide +kernel
theorem dX6_define_22 : decode cX6_define 22 = .ok (.bipush 6, 2) := by decide +kernel
theorem dX6_define_24 : decode cX6_define 24 = .ok (.if_icmp .lt 6, 3) := by decide +kernel
theorem dX6_define_27 : decode cX6_define 27 = .ok (.bipush (-4), 2) := by decide +kernel
theorem dX6_define_29 : decode cX6_define 29 = .ok (.ireturn, 1) := by decide +kernel
theorem dX6_define_30 : decode cX6_define 30 = .ok (.aload_n 0, 1) := by decide +kernel
theorem dX6_define_31 : decode cX6_define 31 = .ok (.getfield 19, 3) := by decide +kernel
theorem dX6_define_34 : decode cX6_define 34 = .ok (.aload_n 0, 1) := by decide +kernel
theorem dX6_define_35 : decode cX6_define 35 = .ok (.getfield 10, 3) := by decide +kernel
theorem dX6_define_38 : decode cX6_define 38 = .ok (.invokevirtual 50, 3) := by decide +kernel
theorem dX6_define_41 : decode cX6_define 41 = .ok (.invokevirtual 54, 3) := by decide +kernel
theorem dX6_define_44 : decode cX6_define 44 = .ok (.ifCond .ne 6, 3) := by decide +kernel
theorem dX6_define_47 : decode cX6_define 47 = .ok (.bipush (-5), 2) := by decide +kernel
theorem dX6_define_49 : decode cX6_define 49 = .ok (.ireturn, 1) := by decide +kernel
theorem dX6_define_50 : decode cX6_define 50 = .ok (.aload_n 0, 1) := by decide +kernel
theorem dX6_define_51 : decode cX6_define 51 = .ok (.getfield 10, 3) := by decide +kernel
theorem dX6_define_54 : decode cX6_define 54 = .ok (.invokevirtual 58, 3) := by decide +kernel
theorem dX6_define_57 : decode cX6_define 57 = .ok (.aload_n 0, 1) := by decide +kernel
theorem dX6_define_58 : decode cX6_define 58 = .ok (.getfield 19, 3) := by decide +kernel
theorem dX6_define_61 : decode cX6_define 61 = .ok (.invokevirtual 47, 3) := by decide +kernel
theorem dX6_define_64 : decode cX6_define 64 = .ok (.iconst 1, 1) := by decide +kernel
theorem dX6_define_65 : decode cX6_define 65 = .ok (.isub, 1) := by decide +kernel
theorem dX6_define_66 : decode cX6_define 66 = .ok (.ireturn, 1) := by decide +kernel
theorem dX6_layout_0 : decode cX6_layout 0 = .ok (.aload_n 0, 1) := by decide +kernel
theorem dX6_layout_1 : decode cX6_layout 1 = .ok (.getfield 19, 3) := by decide +kernel
theorem dX6_layout_4 : decode cX6_layout 4 = .ok (.iload_n 1, 1) := by decide +kernel
theorem dX6_layout_5 : decode cX6_layout 5 = .ok (.invokevirtual 61, 3) := by decide +kernel
theorem dX6_layout_8 : decode cX6_layout 8 = .ok (.astore 4, 2) := by decide +kernel
theorem dX6_layout_10 : decode cX6_layout 10 = .ok (.aload 4, 2) := by decide +kernel
theorem dX6_layout_12 : decode cX6_layout 12 = .ok (.iload_n 2, 1) := by decide +kernel
theorem dX6_layout_13 : decode cX6_layout 13 = .ok (.invokevirtual 65, 3) := by decide +kernel
theorem dX6_layout_16 : decode cX6_layout 16 = .ok (.ifCond .ne 5, 3) := by decide +kernel
theorem dX6_layout_19 : decode cX6_layout 19 = .ok (.iconst (-1), 1) := by decide +kernel
theorem dX6_layout_20 : decode cX6_layout 20 = .ok (.ireturn, 1) := by decide +kernel
theorem dX6_layout_21 : decode cX6_layout 21 = .ok (.iload_n 3, 1) := by decide +kernel
theorem dX6_layout_22 : decode cX6_layout 22 = .ok (.tableswitch 47 0 2 #[26, 33, 40], 26) := by decide +kernel
theorem dX6_layout_48 : decode cX6_layout 48 = .ok (.aload 4, 2) := by decide +kernel
theorem dX6_layout_50 : decode cX6_layout 50 = .ok (.iload_n 2, 1) := by decide +kernel
theorem dX6_layout_51 : decode cX6_layout 51 = .ok (.invokevirtual 71, 3) := by decide +kernel
theorem dX6_layout_54 : decode cX6_layout 54 = .ok (.ireturn, 1) := by decide +kernel
theorem dX6_layout_55 : decode cX6_layout 55 = .ok (.aload 4, 2) := by decide +kernel
theorem dX6_layout_57 : decode cX6_layout 57 = .ok (.iload_n 2, 1) := by decide +kernel
theorem dX6_layout_58 : decode cX6_layout 58 = .ok (.invokevirtual 75, 3) := by decide +kernel
theorem dX6_layout_61 : decode cX6_layout 61 = .ok (.ireturn, 1) := by decide +kernel
theorem dX6_layout_62 : decode cX6_layout 62 = .ok (.aload 4, 2) := by decide +kernel
theorem dX6_layout_64 : decode cX6_layout 64 = .ok (.iload_n 2, 1) := by decide +kernel
theorem dX6_layout_65 : decode cX6_layout 65 = .ok (.invokevirtual 78, 3) := by decide +kernel
theorem dX6_layout_68 : decode cX6_layout 68 = .ok (.ireturn, 1) := by decide +kernel
theorem dX6_layout_69 : decode cX6_layout 69 = .ok (.bipush (-2), 2) := by decide +kernel
theorem dX6_layout_71 : decode cX6_layout 71 = .ok (.ireturn, 1) := by decide +kernel
theorem dX6_fail_0 : decode cX6_fail 0 = .ok (.iload_n 1, 1) := by decide +kernel
theorem dX6_fail_1 : decode cX6_fail 1 = .ok (.bipush (-6), 2) := by decide +kernel
theorem dX6_fail_3 : decode cX6_fail 3 = .ok (.if_icmp .eq 13, 3) := by decide +kernel
theorem dX6_fail_6 : decode cX6_fail 6 = .ok (.iload_n 1, 1) := by decide +kernel
theorem dX6_fail_7 : decode cX6_fail 7 = .ok (.invokestatic 81, 3) := by decide +kernel
theorem dX6_fail_10 : decode cX6_fail 10 = .ok (.ifCond .ne 6, 3) := by decide +kernel
theorem dX6_fail_13 : decode cX6_fail 13 = .ok (.bipush (-2), 2) := by decide +kernel
theorem dX6_fail_15 : decode cX6_fail 15 = .ok (.ireturn, 1) := by decide +kernel
theorem dX6_fail_16 : decode cX6_fail 16 = .ok (.aload_n 0, 1) := by decide +kernel
theorem dX6_fail_17 : decode cX6_fail 17 = .ok (.getfield 28, 3) := by decide +kernel
theorem dX6_fail_20 : decode cX6_fail 20 = .ok (.invokevirtual 84, 3) := by decide +kernel
theorem dX6_fail_23 : decode cX6_fail 23 = .ok (.ifCond .ne 6, 3) := by decide +kernel
theorem dX6_fail_26 : decode cX6_fail 26 = .ok (.bipush (-5), 2) := by decide +kernel
theorem dX6_fail_28 : decode cX6_fail 28 = .ok (.ireturn, 1) := by decide +kernel
theorem dX6_fail_29 : decode cX6_fail 29 = .ok (.aload_n 0, 1) := by decide +kernel
theorem dX6_fail_30 : decode cX6_fail 30 = .ok (.getfield 28, 3) := by decide +kernel
theorem dX6_fail_33 : decode cX6_fail 33 = .ok (.invokevirtual 88, 3) := by decide +kernel
theorem dX6_fail_36 : decode cX6_fail 36 = .ok (.bipush (-6), 2) := by decide +kernel
theorem dX6_fail_38 : decode cX6_fail 38 = .ok (.if_icmp .ne 7, 3) := by decide +kernel
theorem dX6_fail_41 : decode cX6_fail 41 = .ok (.iconst 0, 1) := by decide +kernel
theorem dX6_fail_42 : decode cX6_fail 42 = .ok (.goto 4, 3) := by decide +kernel
theorem dX6_fail_45 : decode cX6_fail 45 = .ok (.iconst 1, 1) := by decide +kernel
theorem dX6_fail_46 : decode cX6_fail 46 = .ok (.istore_n 2, 1) := by decide +kernel
theorem dX6_fail_47 : decode cX6_fail 47 = .ok (.aload_n 0, 1) := by decide +kernel
theorem dX6_fail_48 : decode cX6_fail 48 = .ok (.getfield 28, 3) := by decide +kernel
theorem dX6_fail_51 : decode cX6_fail 51 = .ok (.iload_n 1, 1) := by decide +kernel
theorem dX6_fail_52 : decode cX6_fail 52 = .ok (.invokevirtual 91, 3) := by decide +kernel
theorem dX6_fail_55 : decode cX6_fail 55 = .ok (.iload_n 2, 1) := by decide +kernel
theorem dX6_fail_56 : decode cX6_fail 56 = .ok (.ireturn, 1) := by decide +kernel
theorem dX6_start_0 : decode cX6_start 0 = .ok (.aload_n 0, 1) := by decide +kernel
theorem dX6_start_1 : decode cX6_start 1 = .ok (.getfield 28, 3) := by decide +kernel
theorem dX6_start_4 : decode cX6_start 4 = .ok (.invokevirtual 95, 3) := by decide +kernel
theorem dX6_start_7 : decode cX6_start 7 = .ok (.aload_n 0, 1) := by decide +kernel
theorem dX6_start_8 : decode cX6_start 8 = .ok (.getfield 28, 3) := by decide +kernel
theorem dX6_start_11 : decode cX6_start 11 = .ok (.invokevirtual 98, 3) := by decide +kernel
theorem dX6_start_14 : decode cX6_start 14 = .ok (.ireturn, 1) := by decide +kernel
theorem dX6_get_0 : decode cX6_get 0 = .ok (.aload_n 0, 1) := by decide +kernel
theorem dX6_get_1 : decode cX6_get 1 = .ok (.getfield 28, 3) := by decide +kernel
theorem dX6_get_4 : decode cX6_get 4 = .ok (.invokevirtual 84, 3) := by decide +kernel
theorem dX6_get_7 : decode cX6_get 7 = .ok (.ifCond .ne 6, 3) := by decide +kernel
theorem dX6_get_10 : decode cX6_get 10 = .ok (.bipush (-5), 2) := by decide +kernel
theorem dX6_get_12 : decode cX6_get 12 = .ok (.ireturn, 1) := by decide +kernel
theorem dX6_get_13 : decode cX6_get 13 = .ok (.aload_n 0, 1) := by decide +kernel
theorem dX6_get_14 : decode cX6_get 14 = .ok (.getfield 28, 3) := by decide +kernel
theorem dX6_get_17 : decode cX6_get 17 = .ok (.invokevirtual 101, 3) := by decide +kernel
theorem dX6_get_20 : decode cX6_get 20 = .ok (.iload_n 1, 1) := by decide +kernel
theorem dX6_get_21 : decode cX6_get 21 = .ok (.invokevirtual 65, 3) := by decide +kernel
theorem dX6_get_24 : decode cX6_get 24 = .ok (.ifCond .eq 14, 3) := by decide +kernel
theorem dX6_get_27 : decode cX6_get 27 = .ok (.aload_n 0, 1) := by decide +kernel
theorem dX6_get_28 : decode cX6_get 28 = .ok (.getfield 28, 3) := by decide +kernel
theorem dX6_get_31 : decode cX6_get 31 = .ok (.iload_n 1, 1) := by decide +kernel
theorem dX6_get_32 : decode cX6_get 32 = .ok (.invokevirtual 105, 3) := by decide +kernel
theorem dX6_get_35 : decode cX6_get 35 = .ok (.goto 4, 3) := by decide +kernel
theorem dX6_get_38 : decode cX6_get 38 = .ok (.iconst (-1), 1) := by decide +kernel
theorem dX6_get_39 : decode cX6_get 39 = .ok (.ireturn, 1) := by decide +kernel
theorem dX6_set_0 : decode cX6_set 0 = .ok (.aload_n 0, 1) := by decide +kernel
theorem dX6_set_1 : decode cX6_set 1 = .ok (.getfield 28, 3) := by decide +kernel
theorem dX6_set_4 : decode cX6_set 4 = .ok (.invokevirtual 84, 3) := by decide +kernel
theorem dX6_set_7 : decode cX6_set 7 = .ok (.ifCond .ne 6, 3) := by decide +kernel
theorem dX6_set_10 : decode cX6_set 10 = .ok (.bipush (-5), 2) := by decide +kernel
theorem dX6_set_12 : decode cX6_set 12 = .ok (.ireturn, 1) := by decide +kernel
theorem dX6_set_13 : decode cX6_set 13 = .ok (.aload_n 0, 1) := by decide +kernel
theorem dX6_set_14 : decode cX6_set 14 = .ok (.getfield 28, 3) := by decide +kernel
theorem dX6_set_17 : decode cX6_set 17 = .ok (.invokevirtual 101, 3) := by decide +kernel
theorem dX6_set_20 : decode cX6_set 20 = .ok (.iload_n 1, 1) := by decide +kernel
theorem dX6_set_21 : decode cX6_set 21 = .ok (.invokevirtual 65, 3) := by decide +kernel
theorem dX6_set_24 : decode cX6_set 24 = .ok (.ifCond .ne 5, 3) := by decide +kernel
theorem dX6_set_27 : decode cX6_set 27 = .ok (.iconst (-1), 1) := by decide +kernel
theorem dX6_set_28 : decode cX6_set 28 = .ok (.ireturn, 1) := by decide +kernel
theorem dX6_set_29 : decode cX6_set 29 = .ok (.aload_n 0, 1) := by decide +kernel
theorem dX6_set_30 : decode cX6_set 30 = .ok (.getfield 28, 3) := by decide +kernel
theorem dX6_set_33 : decode cX6_set 33 = .ok (.invokevirtual 101, 3) := by decide +kernel
theorem dX6_set_36 : decode cX6_set 36 = .ok (.iload_n 1, 1) := by decide +kernel
theorem dX6_set_37 : decode cX6_set 37 = .ok (.iload_n 2, 1) := by decide +kernel
theorem dX6_set_38 : decode cX6_set 38 = .ok (.invokevirtual 108, 3) := by decide +kernel
theorem dX6_set_41 : decode cX6_set 41 = .ok (.ifCond .ne 6, 3) := by decide +kernel
theorem dX6_set_44 : decode cX6_set 44 = .ok (.bipush (-2), 2) := by decide +kernel
theorem dX6_set_46 : decode cX6_set 46 = .ok (.ireturn, 1) := by decide +kernel
theorem dX6_set_47 : decode cX6_set 47 = .ok (.aload_n 0, 1) := by decide +kernel
theorem dX6_set_48 : decode cX6_set 48 = .ok (.getfield 28, 3) := by decide +kernel
theorem dX6_set_51 : decode cX6_set 51 = .ok (.iload_n 1, 1) := by decide +kernel
theorem dX6_set_52 : decode cX6_set 52 = .ok (.iload_n 2, 1) := by decide +kernel
theorem dX6_set_53 : decode cX6_set 53 = .ok (.invokevirtual 112, 3) := by decide +kernel
theorem dX6_set_56 : decode cX6_set 56 = .ok (.ireturn, 1) := by decide +kernel
theorem dX6_compact_0 : decode cX6_compact 0 = .ok (.aload_n 0, 1) := by decide +kernel
theorem dX6_compact_1 : decode cX6_compact 1 = .ok (.getfield 28, 3) := by decide +kernel
theorem dX6_compact_4 : decode cX6_compact 4 = .ok (.invokevirtual 116, 3) := by decide +kernel
theorem dX6_compact_7 : decode cX6_compact 7 = .ok (.ifCond .ne 6, 3) := by decide +kernel
theorem dX6_compact_10 : decode cX6_compact 10 = .ok (.bipush (-5), 2) := by decide +kernel
theorem dX6_compact_12 : decode cX6_compact 12 = .ok (.ireturn, 1) := by decide +kernel
theorem dX6_compact_13 : decode cX6_compact 13 = .ok (.aload_n 0, 1) := by decide +kernel
theorem dX6_compact_14 : decode cX6_compact 14 = .ok (.getfield 28, 3) := by decide +kernel
theorem dX6_compact_17 : decode cX6_compact 17 = .ok (.aload_n 0, 1) := by decide +kernel
theorem dX6_compact_18 : decode cX6_compact 18 = .ok (.getfield 28, 3) := by decide +kernel
theorem dX6_compact_21 : decode cX6_compact 21 = .ok (.invokevirtual 119, 3) := by decide +kernel
theorem dX6_compact_24 : decode cX6_compact 24 = .ok (.invokevirtual 122, 3) := by decide +kernel
theorem dX6_compact_27 : decode cX6_compact 27 = .ok (.ireturn, 1) := by decide +kernel
theorem dX6_migrate_0 : decode cX6_migrate 0 = .ok (.aload_n 0, 1) := by decide +kernel
theorem dX6_migrate_1 : decode cX6_migrate 1 = .ok (.getfield 28, 3) := by decide +kernel
theorem dX6_migrate_4 : decode cX6_migrate 4 = .ok (.invokevirtual 116, 3) := by decide +kernel
theorem dX6_migrate_7 : decode cX6_migrate 7 = .ok (.ifCond .ne 6, 3) := by decide +kernel
theorem dX6_migrate_10 : decode cX6_migrate 10 = .ok (.bipush (-5), 2) := by decide +kernel
theorem dX6_migrate_12 : decode cX6_migrate 12 = .ok (.ireturn, 1) := by decide +kernel
theorem dX6_migrate_13 : decode cX6_migrate 13 = .ok (.aload_n 0, 1) := by decide +kernel
theorem dX6_migrate_14 : decode cX6_migrate 14 = .ok (.getfield 19, 3) := by decide +kernel
theorem dX6_migrate_17 : decode cX6_migrate 17 = .ok (.iload_n 1, 1) := by decide +kernel
theorem dX6_migrate_18 : decode cX6_migrate 18 = .ok (.invokevirtual 125, 3) := by decide +kernel
theorem dX6_migrate_21 : decode cX6_migrate 21 = .ok (.ifCond .ne 5, 3) := by decide +kernel
theorem dX6_migrate_24 : decode cX6_migrate 24 = .ok (.iconst (-1), 1) := by decide +kernel
theorem dX6_migrate_25 : decode cX6_migrate 25 = .ok (.ireturn, 1) := by decide +kernel
theorem dX6_migrate_26 : decode cX6_migrate 26 = .ok (.iload_n 1, 1) := by decide +kernel
theorem dX6_migrate_27 : decode cX6_migrate 27 = .ok (.aload_n 0, 1) := by decide +kernel
theorem dX6_migrate_28 : decode cX6_migrate 28 = .ok (.getfield 28, 3) := by decide +kernel
theorem dX6_migrate_31 : decode cX6_migrate 31 = .ok (.invokevirtual 119, 3) := by decide +kernel
theorem dX6_migrate_34 : decode cX6_migrate 34 = .ok (.if_icmp .gt 6, 3) := by decide +kernel
theorem dX6_migrate_37 : decode cX6_migrate 37 = .ok (.bipush (-2), 2) := by decide +kernel
theorem dX6_migrate_39 : decode cX6_migrate 39 = .ok (.ireturn, 1) := by decide +kernel
theorem dX6_migrate_40 : decode cX6_migrate 40 = .ok (.aload_n 0, 1) := by decide +kernel
theorem dX6_migrate_41 : decode cX6_migrate 41 = .ok (.getfield 28, 3) := by decide +kernel
theorem dX6_migrate_44 : decode cX6_migrate 44 = .ok (.iload_n 1, 1) := by decide +kernel
theorem dX6_migrate_45 : decode cX6_migrate 45 = .ok (.invokevirtual 122, 3) := by decide +kernel
theorem dX6_migrate_48 : decode cX6_migrate 48 = .ok (.ireturn, 1) := by decide +kernel
theorem dX6_factory_0 : decode cX6_factory 0 = .ok (.aload_n 0, 1) := by decide +kernel
theorem dX6_factory_1 : decode cX6_factory 1 = .ok (.getfield 28, 3) := by decide +kernel
theorem dX6_factory_4 : decode cX6_factory 4 = .ok (.invokevirtual 84, 3) := by decide +kernel
theorem dX6_factory_7 : decode cX6_factory 7 = .ok (.ifCond .ne 6, 3) := by decide +kernel
theorem dX6_factory_10 : decode cX6_factory 10 = .ok (.bipush (-5), 2) := by decide +kernel
theorem dX6_factory_12 : decode cX6_factory 12 = .ok (.ireturn, 1) := by decide +kernel
theorem dX6_factory_13 : decode cX6_factory 13 = .ok (.aload_n 0, 1) := by decide +kernel
theorem dX6_factory_14 : decode cX6_factory 14 = .ok (.getfield 19, 3) := by decide +kernel
theorem dX6_factory_17 : decode cX6_factory 17 = .ok (.iload_n 1, 1) := by decide +kernel
theorem dX6_factory_18 : decode cX6_factory 18 = .ok (.invokevirtual 125, 3) := by decide +kernel
theorem dX6_factory_21 : decode cX6_factory 21 = .ok (.ifCond .eq 14, 3) := by decide +kernel
theorem dX6_factory_24 : decode cX6_factory 24 = .ok (.aload_n 0, 1) := by decide +kernel
theorem dX6_factory_25 : decode cX6_factory 25 = .ok (.getfield 28, 3) := by decide +kernel
theorem dX6_factory_28 : decode cX6_factory 28 = .ok (.iload_n 1, 1) := by decide +kernel
theorem dX6_factory_29 : decode cX6_factory 29 = .ok (.invokevirtual 126, 3) := by decide +kernel
theorem dX6_factory_32 : decode cX6_factory 32 = .ok (.goto 4, 3) := by decide +kernel
theorem dX6_factory_35 : decode cX6_factory 35 = .ok (.iconst (-1), 1) := by decide +kernel
theorem dX6_factory_36 : decode cX6_factory 36 = .ok (.ireturn, 1) := by decide +kernel
theorem dX6_cell_0 : decode cX6_cell 0 = .ok (.iload_n 1, 1) := by decide +kernel
theorem dX6_cell_1 : decode cX6_cell 1 = .ok (.iload_n 2, 1) := by decide +kernel
theorem dX6_cell_2 : decode cX6_cell 2 = .ok (.invokestatic 129, 3) := by decide +kernel
theorem dX6_cell_5 : decode cX6_cell 5 = .ok (.ifCond .eq 18, 3) := by decide +kernel
theorem dX6_cell_8 : decode cX6_cell 8 = .ok (.aload_n 0, 1) := by decide +kernel
theorem dX6_cell_9 : decode cX6_cell 9 = .ok (.getfield 28, 3) := by decide +kernel
theorem dX6_cell_12 : decode cX6_cell 12 = .ok (.iload_n 1, 1) := by decide +kernel
theorem dX6_cell_13 : decode cX6_cell 13 = .ok (.invokevirtual 132, 3) := by decide +kernel
theorem dX6_cell_16 : decode cX6_cell 16 = .ok (.iload_n 2, 1) := by decide +kernel
theorem dX6_cell_17 : decode cX6_cell 17 = .ok (.invokevirtual 136, 3) := by decide +kernel
theorem dX6_cell_20 : decode cX6_cell 20 = .ok (.goto 4, 3) := by decide +kernel
theorem dX6_cell_23 : decode cX6_cell 23 = .ok (.iconst (-1), 1) := by decide +kernel
theorem dX6_cell_24 : decode cX6_cell 24 = .ok (.ireturn, 1) := by decide +kernel
theorem dX6_spoil_0 : decode cX6_spoil 0 = .ok (.iload_n 1, 1) := by decide +kernel
theorem dX6_spoil_1 : decode cX6_spoil 1 = .ok (.iload_n 2, 1) := by decide +kernel
theorem dX6_spoil_2 : decode cX6_spoil 2 = .ok (.invokestatic 129, 3) := by decide +kernel
theorem dX6_spoil_5 : decode cX6_spoil 5 = .ok (.ifCond .ne 5, 3) := by decide +kernel
theorem dX6_spoil_8 : decode cX6_spoil 8 = .ok (.iconst (-1), 1) := by decide +kernel
theorem dX6_spoil_9 : decode cX6_spoil 9 = .ok (.ireturn, 1) := by decide +kernel
theorem dX6_spoil_10 : decode cX6_spoil 10 = .ok (.iload_n 3, 1) := by decide +kernel
theorem dX6_spoil_11 : decode cX6_spoil 11 = .ok (.bipush (-6), 2) := by decide +kernel
theorem dX6_spoil_13 : decode cX6_spoil 13 = .ok (.if_icmp .eq 17, 3) := by decide +kernel
theorem dX6_spoil_16 : decode cX6_spoil 16 = .ok (.iload_n 3, 1) := by decide +kernel
theorem dX6_spoil_17 : decode cX6_spoil 17 = .ok (.ifCond .lt 10, 3) := by decide +kernel
theorem dX6_spoil_20 : decode cX6_spoil 20 = .ok (.iload_n 3, 1) := by decide +kernel
theorem dX6_spoil_21 : decode cX6_spoil 21 = .ok (.sipush 255, 3) := by decide +kernel
theorem dX6_spoil_24 : decode cX6_spoil 24 = .ok (.if_icmp .le 6, 3) := by decide +kernel
theorem dX6_spoil_27 : decode cX6_spoil 27 = .ok (.bipush (-2), 2) := by decide +kernel
theorem dX6_spoil_29 : decode cX6_spoil 29 = .ok (.ireturn, 1) := by decide +kernel
theorem dX6_spoil_30 : decode cX6_spoil 30 = .ok (.aload_n 0, 1) := by decide +kernel
theorem dX6_spoil_31 : decode cX6_spoil 31 = .ok (.getfield 28, 3) := by decide +kernel
theorem dX6_spoil_34 : decode cX6_spoil 34 = .ok (.iload_n 1, 1) := by decide +kernel
theorem dX6_spoil_35 : decode cX6_spoil 35 = .ok (.invokevirtual 132, 3) := by decide +kernel
theorem dX6_spoil_38 : decode cX6_spoil 38 = .ok (.iload_n 2, 1) := by decide +kernel
theorem dX6_spoil_39 : decode cX6_spoil 39 = .ok (.invokevirtual 136, 3) := by decide +kernel
theorem dX6_spoil_42 : decode cX6_spoil 42 = .ok (.istore 4, 2) := by decide +kernel
theorem dX6_spoil_44 : decode cX6_spoil 44 = .ok (.aload_n 0, 1) := by decide +kernel
theorem dX6_spoil_45 : decode cX6_spoil 45 = .ok (.getfield 28, 3) := by decide +kernel
theorem dX6_spoil_48 : decode cX6_spoil 48 = .ok (.iload_n 1, 1) := by decide +kernel
theorem dX6_spoil_49 : decode cX6_spoil 49 = .ok (.invokevirtual 132, 3) := by decide +kernel
theorem dX6_spoil_52 : decode cX6_spoil 52 = .ok (.iload_n 2, 1) := by decide +kernel
theorem dX6_spoil_53 : decode cX6_spoil 53 = .ok (.iload_n 3, 1) := by decide +kernel
theorem dX6_spoil_54 : decode cX6_spoil 54 = .ok (.invokevirtual 141, 3) := by decide +kernel
theorem dX6_spoil_57 : decode cX6_spoil 57 = .ok (.iload 4, 2) := by decide +kernel
theorem dX6_spoil_59 : decode cX6_spoil 59 = .ok (.ireturn, 1) := by decide +kernel
theorem dX6_page_0 : decode cX6_page 0 = .ok (.iload_n 1, 1) := by decide +kernel
theorem dX6_page_1 : decode cX6_page 1 = .ok (.invokestatic 145, 3) := by decide +kernel
theorem dX6_page_4 : decode cX6_page 4 = .ok (.ifCond .ne 5, 3) := by decide +kernel
theorem dX6_page_7 : decode cX6_page 7 = .ok (.iconst (-1), 1) := by decide +kernel
theorem dX6_page_8 : decode cX6_page 8 = .ok (.ireturn, 1) := by decide +kernel
theorem dX6_page_9 : decode cX6_page 9 = .ok (.aload_n 0, 1) := by decide +kernel
theorem dX6_page_10 : decode cX6_page 10 = .ok (.getfield 28, 3) := by decide +kernel
theorem dX6_page_13 : decode cX6_page 13 = .ok (.iload_n 1, 1) := by decide +kernel
theorem dX6_page_14 : decode cX6_page 14 = .ok (.invokevirtual 132, 3) := by decide +kernel
theorem dX6_page_17 : decode cX6_page 17 = .ok (.astore_n 3, 1) := by decide +kernel
theorem dX6_page_18 : decode cX6_page 18 = .ok (.iload_n 2, 1) := by decide +kernel
theorem dX6_page_19 : decode cX6_page 19 = .ok (.tableswitch 89 0 5 #[37, 42, 47, 64, 74, 84], 37) := by decide +kernel
theorem dX6_page_56 : decode cX6_page 56 = .ok (.aload_n 3, 1) := by decide +kernel
theorem dX6_page_57 : decode cX6_page 57 = .ok (.invokevirtual 148, 3) := by decide +kernel
theorem dX6_page_60 : decode cX6_page 60 = .ok (.ireturn, 1) := by decide +kernel
theorem dX6_page_61 : decode cX6_page 61 = .ok (.aload_n 3, 1) := by decide +kernel
theorem dX6_page_62 : decode cX6_page 62 = .ok (.invokevirtual 151, 3) := by decide +kernel
theorem dX6_page_65 : decode cX6_page 65 = .ok (.ireturn, 1) := by decide +kernel
theorem dX6_page_66 : decode cX6_page 66 = .ok (.aload_n 3, 1) := by decide +kernel
theorem dX6_page_67 : decode cX6_page 67 = .ok (.aload_n 0, 1) := by decide +kernel
theorem dX6_page_68 : decode cX6_page 68 = .ok (.getfield 19, 3) := by decide +kernel
theorem dX6_page_71 : decode cX6_page 71 = .ok (.invokevirtual 154, 3) := by decide +kernel
theorem dX6_page_74 : decode cX6_page 74 = .ok (.ifCond .eq 7, 3) := by decide +kernel
theorem dX6_page_77 : decode cX6_page 77 = .ok (.iconst 1, 1) := by decide +kernel
theorem dX6_page_78 : decode cX6_page 78 = .ok (.goto 4, 3) := by decide +kernel
theorem dX6_page_81 : decode cX6_page 81 = .ok (.iconst 0, 1) := by decide +kernel
theorem dX6_page_82 : decode cX6_page 82 = .ok (.ireturn, 1) := by decide +kernel
theorem dX6_page_83 : decode cX6_page 83 = .ok (.aload_n 3, 1) := by decide +kernel
theorem dX6_page_84 : decode cX6_page 84 = .ok (.aload_n 0, 1) := by decide +kernel
theorem dX6_page_85 : decode cX6_page 85 = .ok (.getfield 19, 3) := by decide +kernel
theorem dX6_page_88 : decode cX6_page 88 = .ok (.iconst 1, 1) := by decide +kernel
theorem dX6_page_89 : decode cX6_page 89 = .ok (.invokevirtual 158, 3) := by decide +kernel
theorem dX6_page_92 : decode cX6_page 92 = .ok (.ireturn, 1) := by decide +kernel
theorem dX6_page_93 : decode cX6_page 93 = .ok (.aload_n 3, 1) := by decide +kernel
theorem dX6_page_94 : decode cX6_page 94 = .ok (.aload_n 0, 1) := by decide +kernel
theorem dX6_page_95 : decode cX6_page 95 = .ok (.getfield 19, 3) := by decide +kernel
theorem dX6_page_98 : decode cX6_page 98 = .ok (.iconst 0, 1) := by decide +kernel
theorem dX6_page_99 : decode cX6_page 99 = .ok (.invokevirtual 158, 3) := by decide +kernel
theorem dX6_page_102 : decode cX6_page 102 = .ok (.ireturn, 1) := by decide +kernel
theorem dX6_page_103 : decode cX6_page 103 = .ok (.aload_n 3, 1) := by decide +kernel
theorem dX6_page_104 : decode cX6_page 104 = .ok (.invokevirtual 162, 3) := by decide +kernel
theorem dX6_page_107 : decode cX6_page 107 = .ok (.ireturn, 1) := by decide +kernel
theorem dX6_page_108 : decode cX6_page 108 = .ok (.bipush (-2), 2) := by decide +kernel
theorem dX6_page_110 : decode cX6_page 110 = .ok (.ireturn, 1) := by decide +kernel
theorem dX6_state_0 : decode cX6_state 0 = .ok (.iload_n 1, 1) := by decide +kernel
theorem dX6_state_1 : decode cX6_state 1 = .ok (.tableswitch 211 0 12 #[67, 83, 91, 99, 107, 115, 123, 131, 139, 147, 155, 179, 203], 67) := by decide +kernel
theorem dX6_state_68 : decode cX6_state 68 = .ok (.aload_n 0, 1) := by decide +kernel
theorem dX6_state_69 : decode cX6_state 69 = .ok (.getfield 28, 3) := by decide +kernel
theorem dX6_state_72 : decode cX6_state 72 = .ok (.invokevirtual 84, 3) := by decide +kernel
theorem dX6_state_75 : decode cX6_state 75 = .ok (.ifCond .eq 7, 3) := by decide +kernel
theorem dX6_state_78 : decode cX6_state 78 = .ok (.iconst 1, 1) := by decide +kernel
