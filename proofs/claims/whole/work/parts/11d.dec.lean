theorem dX7_goThrough_126 : decode cX7_goThrough 126 = .ok (.iconst 1, 1) := by decide +kernel
theorem dX7_goThrough_127 : decode cX7_goThrough 127 = .ok (.iadd, 1) := by decide +kernel
theorem dX7_goThrough_128 : decode cX7_goThrough 128 = .ok (.putfield 120, 3) := by decide +kernel
theorem dX7_goThrough_131 : decode cX7_goThrough 131 = .ok (.aload_n 0, 1) := by decide +kernel
theorem dX7_goThrough_132 : decode cX7_goThrough 132 = .ok (.dup, 1) := by decide +kernel
theorem dX7_goThrough_133 : decode cX7_goThrough 133 = .ok (.getfield 123, 3) := by decide +kernel
theorem dX7_goThrough_136 : decode cX7_goThrough 136 = .ok (.iconst 3, 1) := by decide +kernel
theorem dX7_goThrough_137 : decode cX7_goThrough 137 = .ok (.iadd, 1) := by decide +kernel
theorem dX7_goThrough_138 : decode cX7_goThrough 138 = .ok (.putfield 123, 3) := by decide +kernel
theorem dX7_goThrough_141 : decode cX7_goThrough 141 = .ok (.goto (-126), 3) := by decide +kernel
theorem dX7_goThrough_144 : decode cX7_goThrough 144 = .ok (.return_, 1) := by decide +kernel
theorem dX7_layUsual_0 : decode cX7_layUsual 0 = .ok (.iconst 0, 1) := by decide +kernel
theorem dX7_layUsual_1 : decode cX7_layUsual 1 = .ok (.istore_n 2, 1) := by decide +kernel
theorem dX7_layUsual_2 : decode cX7_layUsual 2 = .ok (.iload_n 2, 1) := by decide +kernel
theorem dX7_layUsual_3 : decode cX7_layUsual 3 = .ok (.bipush 10, 2) := by decide +kernel
theorem dX7_layUsual_5 : decode cX7_layUsual 5 = .ok (.if_icmp .ge 40, 3) := by decide +kernel
theorem dX7_layUsual_8 : decode cX7_layUsual 8 = .ok (.aload_n 0, 1) := by decide +kernel
theorem dX7_layUsual_9 : decode cX7_layUsual 9 = .ok (.getfield 7, 3) := by decide +kernel
theorem dX7_layUsual_12 : decode cX7_layUsual 12 = .ok (.bipush 11, 2) := by decide +kernel
theorem dX7_layUsual_14 : decode cX7_layUsual 14 = .ok (.iload_n 2, 1) := by decide +kernel
theorem dX7_layUsual_15 : decode cX7_layUsual 15 = .ok (.iadd, 1) := by decide +kernel
theorem dX7_layUsual_16 : decode cX7_layUsual 16 = .ok (.aload_n 0, 1) := by decide +kernel
theorem dX7_layUsual_17 : decode cX7_layUsual 17 = .ok (.getfield 32, 3) := by decide +kernel
theorem dX7_layUsual_20 : decode cX7_layUsual 20 = .ok (.bipush 10, 2) := by decide +kernel
theorem dX7_layUsual_22 : decode cX7_layUsual 22 = .ok (.iload_n 1, 1) := by decide +kernel
theorem dX7_layUsual_23 : decode cX7_layUsual 23 = .ok (.imul, 1) := by decide +kernel
theorem dX7_layUsual_24 : decode cX7_layUsual 24 = .ok (.iload_n 2, 1) := by decide +kernel
theorem dX7_layUsual_25 : decode cX7_layUsual 25 = .ok (.iadd, 1) := by decide +kernel
theorem dX7_layUsual_26 : decode cX7_layUsual 26 = .ok (.iaload, 1) := by decide +kernel
theorem dX7_layUsual_27 : decode cX7_layUsual 27 = .ok (.iastore, 1) := by decide +kernel
theorem dX7_layUsual_28 : decode cX7_layUsual 28 = .ok (.aload_n 0, 1) := by decide +kernel
theorem dX7_layUsual_29 : decode cX7_layUsual 29 = .ok (.getfield 7, 3) := by decide +kernel
theorem dX7_layUsual_32 : decode cX7_layUsual 32 = .ok (.bipush 117, 2) := by decide +kernel
theorem dX7_layUsual_34 : decode cX7_layUsual 34 = .ok (.iload_n 2, 1) := by decide +kernel
theorem dX7_layUsual_35 : decode cX7_layUsual 35 = .ok (.iadd, 1) := by decide +kernel
theorem dX7_layUsual_36 : decode cX7_layUsual 36 = .ok (.bipush (-6), 2) := by decide +kernel
theorem dX7_layUsual_38 : decode cX7_layUsual 38 = .ok (.iastore, 1) := by decide +kernel
theorem dX7_layUsual_39 : decode cX7_layUsual 39 = .ok (.iinc 2 1, 3) := by decide +kernel
theorem dX7_layUsual_42 : decode cX7_layUsual 42 = .ok (.goto (-40), 3) := by decide +kernel
theorem dX7_layUsual_45 : decode cX7_layUsual 45 = .ok (.return_, 1) := by decide +kernel
theorem dX7_activeByHeads_0 : decode cX7_activeByHeads 0 = .ok (.aload_n 0, 1) := by decide +kernel
theorem dX7_activeByHeads_1 : decode cX7_activeByHeads 1 = .ok (.iconst 0, 1) := by decide +kernel
theorem dX7_activeByHeads_2 : decode cX7_activeByHeads 2 = .ok (.invokevirtual 129, 3) := by decide +kernel
theorem dX7_activeByHeads_5 : decode cX7_activeByHeads 5 = .ok (.ifCond .eq 49, 3) := by decide +kernel
theorem dX7_activeByHeads_8 : decode cX7_activeByHeads 8 = .ok (.aload_n 0, 1) := by decide +kernel
theorem dX7_activeByHeads_9 : decode cX7_activeByHeads 9 = .ok (.iconst 1, 1) := by decide +kernel
theorem dX7_activeByHeads_10 : decode cX7_activeByHeads 10 = .ok (.invokevirtual 129, 3) := by decide +kernel
theorem dX7_activeByHeads_13 : decode cX7_activeByHeads 13 = .ok (.ifCond .eq 41, 3) := by decide +kernel
theorem dX7_activeByHeads_16 : decode cX7_activeByHeads 16 = .ok (.aload_n 0, 1) := by decide +kernel
theorem dX7_activeByHeads_17 : decode cX7_activeByHeads 17 = .ok (.iconst 1, 1) := by decide +kernel
theorem dX7_activeByHeads_18 : decode cX7_activeByHeads 18 = .ok (.iconst 1, 1) := by decide +kernel
theorem dX7_activeByHeads_19 : decode cX7_activeByHeads 19 = .ok (.invokevirtual 114, 3) := by decide +kernel
theorem dX7_activeByHeads_22 : decode cX7_activeByHeads 22 = .ok (.aload_n 0, 1) := by decide +kernel
theorem dX7_activeByHeads_23 : decode cX7_activeByHeads 23 = .ok (.iconst 0, 1) := by decide +kernel
theorem dX7_activeByHeads_24 : decode cX7_activeByHeads 24 = .ok (.iconst 1, 1) := by decide +kernel
theorem dX7_activeByHeads_25 : decode cX7_activeByHeads 25 = .ok (.invokevirtual 114, 3) := by decide +kernel
theorem dX7_activeByHeads_28 : decode cX7_activeByHeads 28 = .ok (.isub, 1) := by decide +kernel
theorem dX7_activeByHeads_29 : decode cX7_activeByHeads 29 = .ok (.sipush 200, 3) := by decide +kernel
theorem dX7_activeByHeads_32 : decode cX7_activeByHeads 32 = .ok (.iadd, 1) := by decide +kernel
theorem dX7_activeByHeads_33 : decode cX7_activeByHeads 33 = .ok (.sipush 200, 3) := by decide +kernel
theorem dX7_activeByHeads_36 : decode cX7_activeByHeads 36 = .ok (.irem, 1) := by decide +kernel
theorem dX7_activeByHeads_37 : decode cX7_activeByHeads 37 = .ok (.istore_n 1, 1) := by decide +kernel
theorem dX7_activeByHeads_38 : decode cX7_activeByHeads 38 = .ok (.iload_n 1, 1) := by decide +kernel
theorem dX7_activeByHeads_39 : decode cX7_activeByHeads 39 = .ok (.iconst 1, 1) := by decide +kernel
theorem dX7_activeByHeads_40 : decode cX7_activeByHeads 40 = .ok (.bipush 100, 2) := by decide +kernel
theorem dX7_activeByHeads_42 : decode cX7_activeByHeads 42 = .ok (.invokestatic 63, 3) := by decide +kernel
theorem dX7_activeByHeads_45 : decode cX7_activeByHeads 45 = .ok (.ifCond .eq 7, 3) := by decide +kernel
theorem dX7_activeByHeads_48 : decode cX7_activeByHeads 48 = .ok (.iconst 1, 1) := by decide +kernel
theorem dX7_activeByHeads_49 : decode cX7_activeByHeads 49 = .ok (.goto 4, 3) := by decide +kernel
theorem dX7_activeByHeads_52 : decode cX7_activeByHeads 52 = .ok (.iconst 0, 1) := by decide +kernel
theorem dX7_activeByHeads_53 : decode cX7_activeByHeads 53 = .ok (.ireturn, 1) := by decide +kernel
theorem dX7_activeByHeads_54 : decode cX7_activeByHeads 54 = .ok (.aload_n 0, 1) := by decide +kernel
theorem dX7_activeByHeads_55 : decode cX7_activeByHeads 55 = .ok (.iconst 0, 1) := by decide +kernel
theorem dX7_activeByHeads_56 : decode cX7_activeByHeads 56 = .ok (.invokevirtual 129, 3) := by decide +kernel
theorem dX7_activeByHeads_59 : decode cX7_activeByHeads 59 = .ok (.ifCond .eq 7, 3) := by decide +kernel
theorem dX7_activeByHeads_62 : decode cX7_activeByHeads 62 = .ok (.iconst 0, 1) := by decide +kernel
theorem dX7_activeByHeads_63 : decode cX7_activeByHeads 63 = .ok (.goto 17, 3) := by decide +kernel
theorem dX7_activeByHeads_66 : decode cX7_activeByHeads 66 = .ok (.aload_n 0, 1) := by decide +kernel
theorem dX7_activeByHeads_67 : decode cX7_activeByHeads 67 = .ok (.iconst 1, 1) := by decide +kernel
theorem dX7_activeByHeads_68 : decode cX7_activeByHeads 68 = .ok (.invokevirtual 129, 3) := by decide +kernel
theorem dX7_activeByHeads_71 : decode cX7_activeByHeads 71 = .ok (.ifCond .eq 7, 3) := by decide +kernel
theorem dX7_activeByHeads_74 : decode cX7_activeByHeads 74 = .ok (.iconst 1, 1) := by decide +kernel
theorem dX7_activeByHeads_75 : decode cX7_activeByHeads 75 = .ok (.goto 5, 3) := by decide +kernel
theorem dX7_activeByHeads_78 : decode cX7_activeByHeads 78 = .ok (.bipush (-6), 2) := by decide +kernel
theorem dX7_activeByHeads_80 : decode cX7_activeByHeads 80 = .ok (.ireturn, 1) := by decide +kernel
theorem dX7_start_0 : decode cX7_start 0 = .ok (.aload_n 0, 1) := by decide +kernel
theorem dX7_start_1 : decode cX7_start 1 = .ok (.getfield 7, 3) := by decide +kernel
theorem dX7_start_4 : decode cX7_start 4 = .ok (.iconst 0, 1) := by decide +kernel
theorem dX7_start_5 : decode cX7_start 5 = .ok (.iconst 1, 1) := by decide +kernel
theorem dX7_start_6 : decode cX7_start 6 = .ok (.iastore, 1) := by decide +kernel
theorem dX7_start_7 : decode cX7_start 7 = .ok (.aload_n 0, 1) := by decide +kernel
theorem dX7_start_8 : decode cX7_start 8 = .ok (.getfield 7, 3) := by decide +kernel
theorem dX7_start_11 : decode cX7_start 11 = .ok (.iconst 1, 1) := by decide +kernel
theorem dX7_start_12 : decode cX7_start 12 = .ok (.bipush (-6), 2) := by decide +kernel
theorem dX7_start_14 : decode cX7_start 14 = .ok (.iastore, 1) := by decide +kernel
theorem dX7_start_15 : decode cX7_start 15 = .ok (.aload_n 0, 1) := by decide +kernel
theorem dX7_start_16 : decode cX7_start 16 = .ok (.getfield 7, 3) := by decide +kernel
theorem dX7_start_19 : decode cX7_start 19 = .ok (.bipush 6, 2) := by decide +kernel
theorem dX7_start_21 : decode cX7_start 21 = .ok (.iconst 0, 1) := by decide +kernel
theorem dX7_start_22 : decode cX7_start 22 = .ok (.iastore, 1) := by decide +kernel
theorem dX7_start_23 : decode cX7_start 23 = .ok (.aload_n 0, 1) := by decide +kernel
theorem dX7_start_24 : decode cX7_start 24 = .ok (.getfield 7, 3) := by decide +kernel
theorem dX7_start_27 : decode cX7_start 27 = .ok (.iconst 2, 1) := by decide +kernel
theorem dX7_start_28 : decode cX7_start 28 = .ok (.aload_n 0, 1) := by decide +kernel
theorem dX7_start_29 : decode cX7_start 29 = .ok (.invokevirtual 132, 3) := by decide +kernel
theorem dX7_start_32 : decode cX7_start 32 = .ok (.iastore, 1) := by decide +kernel
theorem dX7_start_33 : decode cX7_start 33 = .ok (.aload_n 0, 1) := by decide +kernel
theorem dX7_start_34 : decode cX7_start 34 = .ok (.getfield 7, 3) := by decide +kernel
theorem dX7_start_37 : decode cX7_start 37 = .ok (.iconst 3, 1) := by decide +kernel
theorem dX7_start_38 : decode cX7_start 38 = .ok (.bipush (-6), 2) := by decide +kernel
theorem dX7_start_40 : decode cX7_start 40 = .ok (.iastore, 1) := by decide +kernel
theorem dX7_start_41 : decode cX7_start 41 = .ok (.aload_n 0, 1) := by decide +kernel
theorem dX7_start_42 : decode cX7_start 42 = .ok (.getfield 7, 3) := by decide +kernel
theorem dX7_start_45 : decode cX7_start 45 = .ok (.iconst 4, 1) := by decide +kernel
theorem dX7_start_46 : decode cX7_start 46 = .ok (.bipush (-6), 2) := by decide +kernel
theorem dX7_start_48 : decode cX7_start 48 = .ok (.iastore, 1) := by decide +kernel
theorem dX7_start_49 : decode cX7_start 49 = .ok (.aload_n 0, 1) := by decide +kernel
theorem dX7_start_50 : decode cX7_start 50 = .ok (.getfield 7, 3) := by decide +kernel
theorem dX7_start_53 : decode cX7_start 53 = .ok (.iconst 2, 1) := by decide +kernel
theorem dX7_start_54 : decode cX7_start 54 = .ok (.iaload, 1) := by decide +kernel
theorem dX7_start_55 : decode cX7_start 55 = .ok (.ifCond .lt 89, 3) := by decide +kernel
theorem dX7_start_58 : decode cX7_start 58 = .ok (.aload_n 0, 1) := by decide +kernel
theorem dX7_start_59 : decode cX7_start 59 = .ok (.getfield 7, 3) := by decide +kernel
theorem dX7_start_62 : decode cX7_start 62 = .ok (.iconst 3, 1) := by decide +kernel
theorem dX7_start_63 : decode cX7_start 63 = .ok (.aload_n 0, 1) := by decide +kernel
theorem dX7_start_64 : decode cX7_start 64 = .ok (.aload_n 0, 1) := by decide +kernel
theorem dX7_start_65 : decode cX7_start 65 = .ok (.getfield 7, 3) := by decide +kernel
theorem dX7_start_68 : decode cX7_start 68 = .ok (.iconst 2, 1) := by decide +kernel
theorem dX7_start_69 : decode cX7_start 69 = .ok (.iaload, 1) := by decide +kernel
theorem dX7_start_70 : decode cX7_start 70 = .ok (.iconst 0, 1) := by decide +kernel
theorem dX7_start_71 : decode cX7_start 71 = .ok (.invokevirtual 114, 3) := by decide +kernel
theorem dX7_start_74 : decode cX7_start 74 = .ok (.sipush 200, 3) := by decide +kernel
theorem dX7_start_77 : decode cX7_start 77 = .ok (.isub, 1) := by decide +kernel
theorem dX7_start_78 : decode cX7_start 78 = .ok (.iastore, 1) := by decide +kernel
theorem dX7_start_79 : decode cX7_start 79 = .ok (.aload_n 0, 1) := by decide +kernel
theorem dX7_start_80 : decode cX7_start 80 = .ok (.getfield 7, 3) := by decide +kernel
theorem dX7_start_83 : decode cX7_start 83 = .ok (.iconst 4, 1) := by decide +kernel
theorem dX7_start_84 : decode cX7_start 84 = .ok (.aload_n 0, 1) := by decide +kernel
theorem dX7_start_85 : decode cX7_start 85 = .ok (.aload_n 0, 1) := by decide +kernel
theorem dX7_start_86 : decode cX7_start 86 = .ok (.getfield 7, 3) := by decide +kernel
theorem dX7_start_89 : decode cX7_start 89 = .ok (.iconst 2, 1) := by decide +kernel
theorem dX7_start_90 : decode cX7_start 90 = .ok (.iaload, 1) := by decide +kernel
theorem dX7_start_91 : decode cX7_start 91 = .ok (.iconst 1, 1) := by decide +kernel
theorem dX7_start_92 : decode cX7_start 92 = .ok (.invokevirtual 114, 3) := by decide +kernel
theorem dX7_start_95 : decode cX7_start 95 = .ok (.iastore, 1) := by decide +kernel
theorem dX7_start_96 : decode cX7_start 96 = .ok (.aload_n 0, 1) := by decide +kernel
theorem dX7_start_97 : decode cX7_start 97 = .ok (.aload_n 0, 1) := by decide +kernel
theorem dX7_start_98 : decode cX7_start 98 = .ok (.getfield 7, 3) := by decide +kernel
theorem dX7_start_101 : decode cX7_start 101 = .ok (.iconst 3, 1) := by decide +kernel
theorem dX7_start_102 : decode cX7_start 102 = .ok (.iaload, 1) := by decide +kernel
theorem dX7_start_103 : decode cX7_start 103 = .ok (.invokevirtual 136, 3) := by decide +kernel
theorem dX7_start_106 : decode cX7_start 106 = .ok (.aload_n 0, 1) := by decide +kernel
theorem dX7_start_107 : decode cX7_start 107 = .ok (.aload_n 0, 1) := by decide +kernel
theorem dX7_start_108 : decode cX7_start 108 = .ok (.getfield 7, 3) := by decide +kernel
theorem dX7_start_111 : decode cX7_start 111 = .ok (.iconst 2, 1) := by decide +kernel
theorem dX7_start_112 : decode cX7_start 112 = .ok (.iaload, 1) := by decide +kernel
theorem dX7_start_113 : decode cX7_start 113 = .ok (.aload_n 0, 1) := by decide +kernel
theorem dX7_start_114 : decode cX7_start 114 = .ok (.getfield 7, 3) := by decide +kernel
theorem dX7_start_117 : decode cX7_start 117 = .ok (.iconst 3, 1) := by decide +kernel
theorem dX7_start_118 : decode cX7_start 118 = .ok (.iaload, 1) := by decide +kernel
theorem dX7_start_119 : decode cX7_start 119 = .ok (.iconst 1, 1) := by decide +kernel
theorem dX7_start_120 : decode cX7_start 120 = .ok (.invokevirtual 139, 3) := by decide +kernel
theorem dX7_start_123 : decode cX7_start 123 = .ok (.aload_n 0, 1) := by decide +kernel
theorem dX7_start_124 : decode cX7_start 124 = .ok (.getfield 7, 3) := by decide +kernel
theorem dX7_start_127 : decode cX7_start 127 = .ok (.bipush 6, 2) := by decide +kernel
theorem dX7_start_129 : decode cX7_start 129 = .ok (.aload_n 0, 1) := by decide +kernel
theorem dX7_start_130 : decode cX7_start 130 = .ok (.getfield 120, 3) := by decide +kernel
theorem dX7_start_133 : decode cX7_start 133 = .ok (.iastore, 1) := by decide +kernel
theorem dX7_start_134 : decode cX7_start 134 = .ok (.aload_n 0, 1) := by decide +kernel
theorem dX7_start_135 : decode cX7_start 135 = .ok (.getfield 7, 3) := by decide +kernel
theorem dX7_start_138 : decode cX7_start 138 = .ok (.iconst 5, 1) := by decide +kernel
theorem dX7_start_139 : decode cX7_start 139 = .ok (.aload_n 0, 1) := by decide +kernel
theorem dX7_start_140 : decode cX7_start 140 = .ok (.getfield 123, 3) := by decide +kernel
theorem dX7_start_143 : decode cX7_start 143 = .ok (.iastore, 1) := by decide +kernel
theorem dX7_start_144 : decode cX7_start 144 = .ok (.aload_n 0, 1) := by decide +kernel
theorem dX7_start_145 : decode cX7_start 145 = .ok (.getfield 7, 3) := by decide +kernel
theorem dX7_start_148 : decode cX7_start 148 = .ok (.iconst 2, 1) := by decide +kernel
theorem dX7_start_149 : decode cX7_start 149 = .ok (.iaload, 1) := by decide +kernel
theorem dX7_start_150 : decode cX7_start 150 = .ok (.ireturn, 1) := by decide +kernel
theorem dX7_isSetting_0 : decode cX7_isSetting 0 = .ok (.aload_n 0, 1) := by decide +kernel
theorem dX7_isSetting_1 : decode cX7_isSetting 1 = .ok (.getfield 7, 3) := by decide +kernel
theorem dX7_isSetting_4 : decode cX7_isSetting 4 = .ok (.iconst 2, 1) := by decide +kernel
theorem dX7_isSetting_5 : decode cX7_isSetting 5 = .ok (.iaload, 1) := by decide +kernel
theorem dX7_isSetting_6 : decode cX7_isSetting 6 = .ok (.ifCond .lt 21, 3) := by decide +kernel
theorem dX7_isSetting_9 : decode cX7_isSetting 9 = .ok (.aload_n 0, 1) := by decide +kernel
theorem dX7_isSetting_10 : decode cX7_isSetting 10 = .ok (.aload_n 0, 1) := by decide +kernel
theorem dX7_isSetting_11 : decode cX7_isSetting 11 = .ok (.getfield 7, 3) := by decide +kernel
theorem dX7_isSetting_14 : decode cX7_isSetting 14 = .ok (.iconst 3, 1) := by decide +kernel
theorem dX7_isSetting_15 : decode cX7_isSetting 15 = .ok (.iaload, 1) := by decide +kernel
theorem dX7_isSetting_16 : decode cX7_isSetting 16 = .ok (.iload_n 1, 1) := by decide +kernel
theorem dX7_isSetting_17 : decode cX7_isSetting 17 = .ok (.invokevirtual 71, 3) := by decide +kernel
theorem dX7_isSetting_20 : decode cX7_isSetting 20 = .ok (.ifCond .eq 7, 3) := by decide +kernel
theorem dX7_isSetting_23 : decode cX7_isSetting 23 = .ok (.iconst 1, 1) := by decide +kernel
theorem dX7_isSetting_24 : decode cX7_isSetting 24 = .ok (.goto 4, 3) := by decide +kernel
theorem dX7_isSetting_27 : decode cX7_isSetting 27 = .ok (.iconst 0, 1) := by decide +kernel
theorem dX7_isSetting_28 : decode cX7_isSetting 28 = .ok (.ireturn, 1) := by decide +kernel
theorem dX7_get_0 : decode cX7_get 0 = .ok (.aload_n 0, 1) := by decide +kernel
theorem dX7_get_1 : decode cX7_get 1 = .ok (.getfield 7, 3) := by decide +kernel
theorem dX7_get_4 : decode cX7_get 4 = .ok (.iconst 0, 1) := by decide +kernel
theorem dX7_get_5 : decode cX7_get 5 = .ok (.iaload, 1) := by decide +kernel
theorem dX7_get_6 : decode cX7_get 6 = .ok (.ifCond .ne 6, 3) := by decide +kernel
theorem dX7_get_9 : decode cX7_get 9 = .ok (.bipush (-5), 2) := by decide +kernel
theorem dX7_get_11 : decode cX7_get 11 = .ok (.ireturn, 1) := by decide +kernel
theorem dX7_get_12 : decode cX7_get 12 = .ok (.aload_n 0, 1) := by decide +kernel
theorem dX7_get_13 : decode cX7_get 13 = .ok (.iload_n 1, 1) := by decide +kernel
theorem dX7_get_14 : decode cX7_get 14 = .ok (.invokevirtual 143, 3) := by decide +kernel
theorem dX7_get_17 : decode cX7_get 17 = .ok (.ifCond .eq 15, 3) := by decide +kernel
theorem dX7_get_20 : decode cX7_get 20 = .ok (.aload_n 0, 1) := by decide +kernel
theorem dX7_get_21 : decode cX7_get 21 = .ok (.getfield 7, 3) := by decide +kernel
theorem dX7_get_24 : decode cX7_get 24 = .ok (.bipush 11, 2) := by decide +kernel
theorem dX7_get_26 : decode cX7_get 26 = .ok (.iload_n 1, 1) := by decide +kernel
theorem dX7_get_27 : decode cX7_get 27 = .ok (.iadd, 1) := by decide +kernel
theorem dX7_get_28 : decode cX7_get 28 = .ok (.iaload, 1) := by decide +kernel
theorem dX7_get_29 : decode cX7_get 29 = .ok (.goto 4, 3) := by decide +kernel
theorem dX7_get_32 : decode cX7_get 32 = .ok (.iconst (-1), 1) := by decide +kernel
theorem dX7_get_33 : decode cX7_get 33 = .ok (.ireturn, 1) := by decide +kernel
theorem dX7_layThen_0 : decode cX7_layThen 0 = .ok (.iconst 0, 1) := by decide +kernel
theorem dX7_layThen_1 : decode cX7_layThen 1 = .ok (.istore_n 1, 1) := by decide +kernel
theorem dX7_layThen_2 : decode cX7_layThen 2 = .ok (.iload_n 1, 1) := by decide +kernel
theorem dX7_layThen_3 : decode cX7_layThen 3 = .ok (.bipush 10, 2) := by decide +kernel
theorem dX7_layThen_5 : decode cX7_layThen 5 = .ok (.if_icmp .ge 24, 3) := by decide +kernel
theorem dX7_layThen_8 : decode cX7_layThen 8 = .ok (.aload_n 0, 1) := by decide +kernel
theorem dX7_layThen_9 : decode cX7_layThen 9 = .ok (.getfield 53, 3) := by decide +kernel
theorem dX7_layThen_12 : decode cX7_layThen 12 = .ok (.iload_n 1, 1) := by decide +kernel
theorem dX7_layThen_13 : decode cX7_layThen 13 = .ok (.aload_n 0, 1) := by decide +kernel
theorem dX7_layThen_14 : decode cX7_layThen 14 = .ok (.getfield 7, 3) := by decide +kernel
theorem dX7_layThen_17 : decode cX7_layThen 17 = .ok (.bipush 11, 2) := by decide +kernel
theorem dX7_layThen_19 : decode cX7_layThen 19 = .ok (.iload_n 1, 1) := by decide +kernel
theorem dX7_layThen_20 : decode cX7_layThen 20 = .ok (.iadd, 1) := by decide +kernel
theorem dX7_layThen_21 : decode cX7_layThen 21 = .ok (.iaload, 1) := by decide +kernel
theorem dX7_layThen_22 : decode cX7_layThen 22 = .ok (.iastore, 1) := by decide +kernel
theorem dX7_layThen_23 : decode cX7_layThen 23 = .ok (.iinc 1 1, 3) := by decide +kernel
theorem dX7_layThen_26 : decode cX7_layThen 26 = .ok (.goto (-24), 3) := by decide +kernel
theorem dX7_layThen_29 : decode cX7_layThen 29 = .ok (.return_, 1) := by decide +kernel
theorem dX7_fill_0 : decode cX7_fill 0 = .ok (.iconst 1, 1) := by decide +kernel
theorem dX7_fill_1 : decode cX7_fill 1 = .ok (.aload_n 0, 1) := by decide +kernel
theorem dX7_fill_2 : decode cX7_fill 2 = .ok (.getfield 7, 3) := by decide +kernel
theorem dX7_fill_5 : decode cX7_fill 5 = .ok (.iconst 2, 1) := by decide +kernel
theorem dX7_fill_6 : decode cX7_fill 6 = .ok (.iaload, 1) := by decide +kernel
theorem dX7_fill_7 : decode cX7_fill 7 = .ok (.isub, 1) := by decide +kernel
theorem dX7_fill_8 : decode cX7_fill 8 = .ok (.istore_n 2, 1) := by decide +kernel
theorem dX7_fill_9 : decode cX7_fill 9 = .ok (.aload_n 0, 1) := by decide +kernel
theorem dX7_fill_10 : decode cX7_fill 10 = .ok (.getfield 7, 3) := by decide +kernel
theorem dX7_fill_13 : decode cX7_fill 13 = .ok (.iconst 4, 1) := by decide +kernel
theorem dX7_fill_14 : decode cX7_fill 14 = .ok (.iaload, 1) := by decide +kernel
theorem dX7_fill_15 : decode cX7_fill 15 = .ok (.iconst 1, 1) := by decide +kernel
theorem dX7_fill_16 : decode cX7_fill 16 = .ok (.iadd, 1) := by decide +kernel
theorem dX7_fill_17 : decode cX7_fill 17 = .ok (.sipush 200, 3) := by decide +kernel
theorem dX7_fill_20 : decode cX7_fill 20 = .ok (.irem, 1) := by decide +kernel
theorem dX7_fill_21 : decode cX7_fill 21 = .ok (.istore_n 3, 1) := by decide +kernel
theorem dX7_fill_22 : decode cX7_fill 22 = .ok (.iconst 3, 1) := by decide +kernel
theorem dX7_fill_23 : decode cX7_fill 23 = .ok (.istore 4, 2) := by decide +kernel
theorem dX7_fill_25 : decode cX7_fill 25 = .ok (.aload_n 0, 1) := by decide +kernel
theorem dX7_fill_26 : decode cX7_fill 26 = .ok (.iload_n 2, 1) := by decide +kernel
theorem dX7_fill_27 : decode cX7_fill 27 = .ok (.invokevirtual 146, 3) := by decide +kernel
theorem dX7_fill_30 : decode cX7_fill 30 = .ok (.iconst 0, 1) := by decide +kernel
theorem dX7_fill_31 : decode cX7_fill 31 = .ok (.istore 5, 2) := by decide +kernel
theorem dX7_fill_33 : decode cX7_fill 33 = .ok (.iload 5, 2) := by decide +kernel
theorem dX7_fill_35 : decode cX7_fill 35 = .ok (.bipush 10, 2) := by decide +kernel
theorem dX7_fill_37 : decode cX7_fill 37 = .ok (.if_icmp .ge 79, 3) := by decide +kernel
theorem dX7_fill_40 : decode cX7_fill 40 = .ok (.aload_n 0, 1) := by decide +kernel
theorem dX7_fill_41 : decode cX7_fill 41 = .ok (.getfield 56, 3) := by decide +kernel
theorem dX7_fill_44 : decode cX7_fill 44 = .ok (.iload 5, 2) := by decide +kernel
theorem dX7_fill_46 : decode cX7_fill 46 = .ok (.bipush (-6), 2) := by decide +kernel
theorem dX7_fill_48 : decode cX7_fill 48 = .ok (.iastore, 1) := by decide +kernel
theorem dX7_fill_49 : decode cX7_fill 49 = .ok (.aload_n 0, 1) := by decide +kernel
theorem dX7_fill_50 : decode cX7_fill 50 = .ok (.iload_n 1, 1) := by decide +kernel
theorem dX7_fill_51 : decode cX7_fill 51 = .ok (.iload 5, 2) := by decide +kernel
theorem dX7_fill_53 : decode cX7_fill 53 = .ok (.invokevirtual 71, 3) := by decide +kernel
theorem dX7_fill_56 : decode cX7_fill 56 = .ok (.ifCond .eq 54, 3) := by decide +kernel
theorem dX7_fill_59 : decode cX7_fill 59 = .ok (.aload_n 0, 1) := by decide +kernel
theorem dX7_fill_60 : decode cX7_fill 60 = .ok (.getfield 53, 3) := by decide +kernel
theorem dX7_fill_63 : decode cX7_fill 63 = .ok (.iload 5, 2) := by decide +kernel
theorem dX7_fill_65 : decode cX7_fill 65 = .ok (.iaload, 1) := by decide +kernel
theorem dX7_fill_66 : decode cX7_fill 66 = .ok (.aload_n 0, 1) := by decide +kernel
theorem dX7_fill_67 : decode cX7_fill 67 = .ok (.getfield 32, 3) := by decide +kernel
theorem dX7_fill_70 : decode cX7_fill 70 = .ok (.bipush 10, 2) := by decide +kernel
theorem dX7_fill_72 : decode cX7_fill 72 = .ok (.iload_n 1, 1) := by decide +kernel
theorem dX7_fill_73 : decode cX7_fill 73 = .ok (.imul, 1) := by decide +kernel
theorem dX7_fill_74 : decode cX7_fill 74 = .ok (.iload 5, 2) := by decide +kernel
theorem dX7_fill_76 : decode cX7_fill 76 = .ok (.iadd, 1) := by decide +kernel
theorem dX7_fill_77 : decode cX7_fill 77 = .ok (.iaload, 1) := by decide +kernel
theorem dX7_fill_78 : decode cX7_fill 78 = .ok (.if_icmp .eq 32, 3) := by decide +kernel
theorem dX7_fill_81 : decode cX7_fill 81 = .ok (.aload_n 0, 1) := by decide +kernel
theorem dX7_fill_82 : decode cX7_fill 82 = .ok (.iload_n 2, 1) := by decide +kernel
theorem dX7_fill_83 : decode cX7_fill 83 = .ok (.iload 4, 2) := by decide +kernel
theorem dX7_fill_85 : decode cX7_fill 85 = .ok (.iload 5, 2) := by decide +kernel
theorem dX7_fill_87 : decode cX7_fill 87 = .ok (.aload_n 0, 1) := by decide +kernel
theorem dX7_fill_88 : decode cX7_fill 88 = .ok (.getfield 53, 3) := by decide +kernel
theorem dX7_fill_91 : decode cX7_fill 91 = .ok (.iload 5, 2) := by decide +kernel
theorem dX7_fill_93 : decode cX7_fill 93 = .ok (.iaload, 1) := by decide +kernel
theorem dX7_fill_94 : decode cX7_fill 94 = .ok (.iload_n 1, 1) := by decide +kernel
theorem dX7_fill_95 : decode cX7_fill 95 = .ok (.invokevirtual 149, 3) := by decide +kernel
theorem dX7_fill_98 : decode cX7_fill 98 = .ok (.aload_n 0, 1) := by decide +kernel
theorem dX7_fill_99 : decode cX7_fill 99 = .ok (.getfield 56, 3) := by decide +kernel
theorem dX7_fill_102 : decode cX7_fill 102 = .ok (.iload 5, 2) := by decide +kernel
theorem dX7_fill_104 : decode cX7_fill 104 = .ok (.iload 4, 2) := by decide +kernel
theorem dX7_fill_106 : decode cX7_fill 106 = .ok (.iastore, 1) := by decide +kernel
theorem dX7_fill_107 : decode cX7_fill 107 = .ok (.iinc 4 3, 3) := by decide +kernel
theorem dX7_fill_110 : decode cX7_fill 110 = .ok (.iinc 5 1, 3) := by decide +kernel
theorem dX7_fill_113 : decode cX7_fill 113 = .ok (.goto (-80), 3) := by decide +kernel
theorem dX7_fill_116 : decode cX7_fill 116 = .ok (.aload_n 0, 1) := by decide +kernel
theorem dX7_fill_117 : decode cX7_fill 117 = .ok (.iload_n 2, 1) := by decide +kernel
theorem dX7_fill_118 : decode cX7_fill 118 = .ok (.iload_n 1, 1) := by decide +kernel
theorem dX7_fill_119 : decode cX7_fill 119 = .ok (.iload_n 3, 1) := by decide +kernel
theorem dX7_fill_120 : decode cX7_fill 120 = .ok (.invokevirtual 153, 3) := by decide +kernel
theorem dX7_fill_123 : decode cX7_fill 123 = .ok (.aload_n 0, 1) := by decide +kernel
theorem dX7_fill_124 : decode cX7_fill 124 = .ok (.getfield 7, 3) := by decide +kernel
theorem dX7_fill_127 : decode cX7_fill 127 = .ok (.iconst 0, 1) := by decide +kernel
theorem dX7_fill_128 : decode cX7_fill 128 = .ok (.iaload, 1) := by decide +kernel
theorem dX7_fill_129 : decode cX7_fill 129 = .ok (.iconst 1, 1) := by decide +kernel
theorem dX7_fill_130 : decode cX7_fill 130 = .ok (.if_icmp .ne 82, 3) := by decide +kernel
theorem dX7_fill_133 : decode cX7_fill 133 = .ok (.aload_n 0, 1) := by decide +kernel
theorem dX7_fill_134 : decode cX7_fill 134 = .ok (.getfield 7, 3) := by decide +kernel
theorem dX7_fill_137 : decode cX7_fill 137 = .ok (.iconst 2, 1) := by decide +kernel
theorem dX7_fill_138 : decode cX7_fill 138 = .ok (.iload_n 2, 1) := by decide +kernel
theorem dX7_fill_139 : decode cX7_fill 139 = .ok (.iastore, 1) := by decide +kernel
theorem dX7_fill_140 : decode cX7_fill 140 = .ok (.aload_n 0, 1) := by decide +kernel
theorem dX7_fill_141 : decode cX7_fill 141 = .ok (.getfield 7, 3) := by decide +kernel
theorem dX7_fill_144 : decode cX7_fill 144 = .ok (.iconst 3, 1) := by decide +kernel
theorem dX7_fill_145 : decode cX7_fill 145 = .ok (.iload_n 1, 1) := by decide +kernel
theorem dX7_fill_146 : decode cX7_fill 146 = .ok (.iastore, 1) := by decide +kernel
theorem dX7_fill_147 : decode cX7_fill 147 = .ok (.aload_n 0, 1) := by decide +kernel
theorem dX7_fill_148 : decode cX7_fill 148 = .ok (.getfield 7, 3) := by decide +kernel
theorem dX7_fill_151 : decode cX7_fill 151 = .ok (.iconst 4, 1) := by decide +kernel
theorem dX7_fill_152 : decode cX7_fill 152 = .ok (.iload_n 3, 1) := by decide +kernel
theorem dX7_fill_153 : decode cX7_fill 153 = .ok (.iastore, 1) := by decide +kernel
theorem dX7_fill_154 : decode cX7_fill 154 = .ok (.aload_n 0, 1) := by decide +kernel
theorem dX7_fill_155 : decode cX7_fill 155 = .ok (.getfield 7, 3) := by decide +kernel
theorem dX7_fill_158 : decode cX7_fill 158 = .ok (.iconst 5, 1) := by decide +kernel
theorem dX7_fill_159 : decode cX7_fill 159 = .ok (.iload 4, 2) := by decide +kernel
theorem dX7_fill_161 : decode cX7_fill 161 = .ok (.iastore, 1) := by decide +kernel
theorem dX7_fill_162 : decode cX7_fill 162 = .ok (.iconst 0, 1) := by decide +kernel
theorem dX7_fill_163 : decode cX7_fill 163 = .ok (.istore 5, 2) := by decide +kernel
theorem dX7_fill_165 : decode cX7_fill 165 = .ok (.iload 5, 2) := by decide +kernel
theorem dX7_fill_167 : decode cX7_fill 167 = .ok (.bipush 10, 2) := by decide +kernel
theorem dX7_fill_169 : decode cX7_fill 169 = .ok (.if_icmp .ge 43, 3) := by decide +kernel
theorem dX7_fill_172 : decode cX7_fill 172 = .ok (.aload_n 0, 1) := by decide +kernel
theorem dX7_fill_173 : decode cX7_fill 173 = .ok (.getfield 7, 3) := by decide +kernel
theorem dX7_fill_176 : decode cX7_fill 176 = .ok (.bipush 11, 2) := by decide +kernel
theorem dX7_fill_178 : decode cX7_fill 178 = .ok (.iload 5, 2) := by decide +kernel
theorem dX7_fill_180 : decode cX7_fill 180 = .ok (.iadd, 1) := by decide +kernel
theorem dX7_fill_181 : decode cX7_fill 181 = .ok (.aload_n 0, 1) := by decide +kernel
theorem dX7_fill_182 : decode cX7_fill 182 = .ok (.getfield 53, 3) := by decide +kernel
theorem dX7_fill_185 : decode cX7_fill 185 = .ok (.iload 5, 2) := by decide +kernel
theorem dX7_fill_187 : decode cX7_fill 187 = .ok (.iaload, 1) := by decide +kernel
theorem dX7_fill_188 : decode cX7_fill 188 = .ok (.iastore, 1) := by decide +kernel
theorem dX7_fill_189 : decode cX7_fill 189 = .ok (.aload_n 0, 1) := by decide +kernel
theorem dX7_fill_190 : decode cX7_fill 190 = .ok (.getfield 7, 3) := by decide +kernel
theorem dX7_fill_193 : decode cX7_fill 193 = .ok (.bipush 117, 2) := by decide +kernel
theorem dX7_fill_195 : decode cX7_fill 195 = .ok (.iload 5, 2) := by decide +kernel
theorem dX7_fill_197 : decode cX7_fill 197 = .ok (.iadd, 1) := by decide +kernel
theorem dX7_fill_198 : decode cX7_fill 198 = .ok (.aload_n 0, 1) := by decide +kernel
theorem dX7_fill_199 : decode cX7_fill 199 = .ok (.getfield 56, 3) := by decide +kernel
theorem dX7_fill_202 : decode cX7_fill 202 = .ok (.iload 5, 2) := by decide +kernel
theorem dX7_fill_204 : decode cX7_fill 204 = .ok (.iaload, 1) := by decide +kernel
theorem dX7_fill_205 : decode cX7_fill 205 = .ok (.iastore, 1) := by decide +kernel
theorem dX7_fill_206 : decode cX7_fill 206 = .ok (.iinc 5 1, 3) := by decide +kernel
theorem dX7_fill_209 : decode cX7_fill 209 = .ok (.goto (-44), 3) := by decide +kernel
theorem dX7_fill_212 : decode cX7_fill 212 = .ok (.return_, 1) := by decide +kernel
theorem dX7_makeSet_0 : decode cX7_makeSet 0 = .ok (.aload_n 0, 1) := by decide +kernel
theorem dX7_makeSet_1 : decode cX7_makeSet 1 = .ok (.iconst 0, 1) := by decide +kernel
theorem dX7_makeSet_2 : decode cX7_makeSet 2 = .ok (.putfield 101, 3) := by decide +kernel
theorem dX7_makeSet_5 : decode cX7_makeSet 5 = .ok (.aload_n 0, 1) := by decide +kernel
theorem dX7_makeSet_6 : decode cX7_makeSet 6 = .ok (.getfield 7, 3) := by decide +kernel
theorem dX7_makeSet_9 : decode cX7_makeSet 9 = .ok (.bipush 11, 2) := by decide +kernel
theorem dX7_makeSet_11 : decode cX7_makeSet 11 = .ok (.iload_n 1, 1) := by decide +kernel
theorem dX7_makeSet_12 : decode cX7_makeSet 12 = .ok (.iadd, 1) := by decide +kernel
theorem dX7_makeSet_13 : decode cX7_makeSet 13 = .ok (.iaload, 1) := by decide +kernel
theorem dX7_makeSet_14 : decode cX7_makeSet 14 = .ok (.iload_n 2, 1) := by decide +kernel
theorem dX7_makeSet_15 : decode cX7_makeSet 15 = .ok (.if_icmp .ne 4, 3) := by decide +kernel
theorem dX7_makeSet_18 : decode cX7_makeSet 18 = .ok (.return_, 1) := by decide +kernel
theorem dX7_makeSet_19 : decode cX7_makeSet 19 = .ok (.aload_n 0, 1) := by decide +kernel
theorem dX7_makeSet_20 : decode cX7_makeSet 20 = .ok (.getfield 7, 3) := by decide +kernel
theorem dX7_makeSet_23 : decode cX7_makeSet 23 = .ok (.iconst 5, 1) := by decide +kernel
theorem dX7_makeSet_24 : decode cX7_makeSet 24 = .ok (.iaload, 1) := by decide +kernel
theorem dX7_makeSet_25 : decode cX7_makeSet 25 = .ok (.iconst 3, 1) := by decide +kernel
theorem dX7_makeSet_26 : decode cX7_makeSet 26 = .ok (.iadd, 1) := by decide +kernel
theorem dX7_makeSet_27 : decode cX7_makeSet 27 = .ok (.bipush 48, 2) := by decide +kernel
theorem dX7_makeSet_29 : decode cX7_makeSet 29 = .ok (.if_icmp .le 25, 3) := by decide +kernel
theorem dX7_makeSet_32 : decode cX7_makeSet 32 = .ok (.aload_n 0, 1) := by decide +kernel
theorem dX7_makeSet_33 : decode cX7_makeSet 33 = .ok (.invokevirtual 156, 3) := by decide +kernel
theorem dX7_makeSet_36 : decode cX7_makeSet 36 = .ok (.aload_n 0, 1) := by decide +kernel
theorem dX7_makeSet_37 : decode cX7_makeSet 37 = .ok (.getfield 53, 3) := by decide +kernel
theorem dX7_makeSet_40 : decode cX7_makeSet 40 = .ok (.iload_n 1, 1) := by decide +kernel
theorem dX7_makeSet_41 : decode cX7_makeSet 41 = .ok (.iload_n 2, 1) := by decide +kernel
theorem dX7_makeSet_42 : decode cX7_makeSet 42 = .ok (.iastore, 1) := by decide +kernel
theorem dX7_makeSet_43 : decode cX7_makeSet 43 = .ok (.aload_n 0, 1) := by decide +kernel
theorem dX7_makeSet_44 : decode cX7_makeSet 44 = .ok (.aload_n 0, 1) := by decide +kernel
theorem dX7_makeSet_45 : decode cX7_makeSet 45 = .ok (.getfield 7, 3) := by decide +kernel
theorem dX7_makeSet_48 : decode cX7_makeSet 48 = .ok (.iconst 3, 1) := by decide +kernel
theorem dX7_makeSet_49 : decode cX7_makeSet 49 = .ok (.iaload, 1) := by decide +kernel
theorem dX7_makeSet_50 : decode cX7_makeSet 50 = .ok (.invokevirtual 159, 3) := by decide +kernel
theorem dX7_makeSet_53 : decode cX7_makeSet 53 = .ok (.return_, 1) := by decide +kernel
theorem dX7_makeSet_54 : decode cX7_makeSet 54 = .ok (.aload_n 0, 1) := by decide +kernel
theorem dX7_makeSet_55 : decode cX7_makeSet 55 = .ok (.aload_n 0, 1) := by decide +kernel
theorem dX7_makeSet_56 : decode cX7_makeSet 56 = .ok (.getfield 7, 3) := by decide +kernel
theorem dX7_makeSet_59 : decode cX7_makeSet 59 = .ok (.iconst 2, 1) := by decide +kernel
theorem dX7_makeSet_60 : decode cX7_makeSet 60 = .ok (.iaload, 1) := by decide +kernel
theorem dX7_makeSet_61 : decode cX7_makeSet 61 = .ok (.aload_n 0, 1) := by decide +kernel
theorem dX7_makeSet_62 : decode cX7_makeSet 62 = .ok (.getfield 7, 3) := by decide +kernel
theorem dX7_makeSet_65 : decode cX7_makeSet 65 = .ok (.iconst 5, 1) := by decide +kernel
theorem dX7_makeSet_66 : decode cX7_makeSet 66 = .ok (.iaload, 1) := by decide +kernel
theorem dX7_makeSet_67 : decode cX7_makeSet 67 = .ok (.iload_n 1, 1) := by decide +kernel
theorem dX7_makeSet_68 : decode cX7_makeSet 68 = .ok (.iload_n 2, 1) := by decide +kernel
theorem dX7_makeSet_69 : decode cX7_makeSet 69 = .ok (.aload_n 0, 1) := by decide +kernel
theorem dX7_makeSet_70 : decode cX7_makeSet 70 = .ok (.getfield 7, 3) := by decide +kernel
theorem dX7_makeSet_73 : decode cX7_makeSet 73 = .ok (.iconst 3, 1) := by decide +kernel
theorem dX7_makeSet_74 : decode cX7_makeSet 74 = .ok (.iaload, 1) := by decide +kernel
theorem dX7_makeSet_75 : decode cX7_makeSet 75 = .ok (.invokevirtual 149, 3) := by decide +kernel
theorem dX7_makeSet_78 : decode cX7_makeSet 78 = .ok (.aload_n 0, 1) := by decide +kernel
theorem dX7_makeSet_79 : decode cX7_makeSet 79 = .ok (.getfield 7, 3) := by decide +kernel
theorem dX7_makeSet_82 : decode cX7_makeSet 82 = .ok (.iconst 0, 1) := by decide +kernel
theorem dX7_makeSet_83 : decode cX7_makeSet 83 = .ok (.iaload, 1) := by decide +kernel
theorem dX7_makeSet_84 : decode cX7_makeSet 84 = .ok (.iconst 1, 1) := by decide +kernel
theorem dX7_makeSet_85 : decode cX7_makeSet 85 = .ok (.if_icmp .ne 38, 3) := by decide +kernel
theorem dX7_makeSet_88 : decode cX7_makeSet 88 = .ok (.aload_n 0, 1) := by decide +kernel
theorem dX7_makeSet_89 : decode cX7_makeSet 89 = .ok (.getfield 7, 3) := by decide +kernel
theorem dX7_makeSet_92 : decode cX7_makeSet 92 = .ok (.bipush 117, 2) := by decide +kernel
theorem dX7_makeSet_94 : decode cX7_makeSet 94 = .ok (.iload_n 1, 1) := by decide +kernel
theorem dX7_makeSet_95 : decode cX7_makeSet 95 = .ok (.iadd, 1) := by decide +kernel
theorem dX7_makeSet_96 : decode cX7_makeSet 96 = .ok (.aload_n 0, 1) := by decide +kernel
theorem dX7_makeSet_97 : decode cX7_makeSet 97 = .ok (.getfield 7, 3) := by decide +kernel
theorem dX7_makeSet_100 : decode cX7_makeSet 100 = .ok (.iconst 5, 1) := by decide +kernel
theorem dX7_makeSet_101 : decode cX7_makeSet 101 = .ok (.iaload, 1) := by decide +kernel
theorem dX7_makeSet_102 : decode cX7_makeSet 102 = .ok (.iastore, 1) := by decide +kernel
theorem dX7_makeSet_103 : decode cX7_makeSet 103 = .ok (.aload_n 0, 1) := by decide +kernel
theorem dX7_makeSet_104 : decode cX7_makeSet 104 = .ok (.getfield 7, 3) := by decide +kernel
theorem dX7_makeSet_107 : decode cX7_makeSet 107 = .ok (.iconst 5, 1) := by decide +kernel
theorem dX7_makeSet_108 : decode cX7_makeSet 108 = .ok (.dup2, 1) := by decide +kernel
theorem dX7_makeSet_109 : decode cX7_makeSet 109 = .ok (.iaload, 1) := by decide +kernel
theorem dX7_makeSet_110 : decode cX7_makeSet 110 = .ok (.iconst 3, 1) := by decide +kernel
theorem dX7_makeSet_111 : decode cX7_makeSet 111 = .ok (.iadd, 1) := by decide +kernel
theorem dX7_makeSet_112 : decode cX7_makeSet 112 = .ok (.iastore, 1) := by decide +kernel
theorem dX7_makeSet_113 : decode cX7_makeSet 113 = .ok (.aload_n 0, 1) := by decide +kernel
theorem dX7_makeSet_114 : decode cX7_makeSet 114 = .ok (.getfield 7, 3) := by decide +kernel
theorem dX7_makeSet_117 : decode cX7_makeSet 117 = .ok (.bipush 11, 2) := by decide +kernel
theorem dX7_makeSet_119 : decode cX7_makeSet 119 = .ok (.iload_n 1, 1) := by decide +kernel
theorem dX7_makeSet_120 : decode cX7_makeSet 120 = .ok (.iadd, 1) := by decide +kernel
theorem dX7_makeSet_121 : decode cX7_makeSet 121 = .ok (.iload_n 2, 1) := by decide +kernel
theorem dX7_makeSet_122 : decode cX7_makeSet 122 = .ok (.iastore, 1) := by decide +kernel
theorem dX7_makeSet_123 : decode cX7_makeSet 123 = .ok (.return_, 1) := by decide +kernel
theorem dX7_isValue_0 : decode cX7_isValue 0 = .ok (.iload_n 2, 1) := by decide +kernel
theorem dX7_isValue_1 : decode cX7_isValue 1 = .ok (.iconst 0, 1) := by decide +kernel
theorem dX7_isValue_2 : decode cX7_isValue 2 = .ok (.aload_n 0, 1) := by decide +kernel
theorem dX7_isValue_3 : decode cX7_isValue 3 = .ok (.getfield 29, 3) := by decide +kernel
theorem dX7_isValue_6 : decode cX7_isValue 6 = .ok (.bipush 10, 2) := by decide +kernel
theorem dX7_isValue_8 : decode cX7_isValue 8 = .ok (.aload_n 0, 1) := by decide +kernel
theorem dX7_isValue_9 : decode cX7_isValue 9 = .ok (.getfield 7, 3) := by decide +kernel
theorem dX7_isValue_12 : decode cX7_isValue 12 = .ok (.iconst 3, 1) := by decide +kernel
theorem dX7_isValue_13 : decode cX7_isValue 13 = .ok (.iaload, 1) := by decide +kernel
theorem dX7_isValue_14 : decode cX7_isValue 14 = .ok (.imul, 1) := by decide +kernel
theorem dX7_isValue_15 : decode cX7_isValue 15 = .ok (.iload_n 1, 1) := by decide +kernel
theorem dX7_isValue_16 : decode cX7_isValue 16 = .ok (.iadd, 1) := by decide +kernel
theorem dX7_isValue_17 : decode cX7_isValue 17 = .ok (.iaload, 1) := by decide +kernel
theorem dX7_isValue_18 : decode cX7_isValue 18 = .ok (.invokestatic 63, 3) := by decide +kernel
theorem dX7_isValue_21 : decode cX7_isValue 21 = .ok (.ireturn, 1) := by decide +kernel
theorem dX7_set_0 : decode cX7_set 0 = .ok (.aload_n 0, 1) := by decide +kernel
theorem dX7_set_1 : decode cX7_set 1 = .ok (.getfield 7, 3) := by decide +kernel
theorem dX7_set_4 : decode cX7_set 4 = .ok (.iconst 0, 1) := by decide +kernel
theorem dX7_set_5 : decode cX7_set 5 = .ok (.iaload, 1) := by decide +kernel
theorem dX7_set_6 : decode cX7_set 6 = .ok (.ifCond .ne 6, 3) := by decide +kernel
theorem dX7_set_9 : decode cX7_set 9 = .ok (.bipush (-5), 2) := by decide +kernel
theorem dX7_set_11 : decode cX7_set 11 = .ok (.ireturn, 1) := by decide +kernel
theorem dX7_set_12 : decode cX7_set 12 = .ok (.aload_n 0, 1) := by decide +kernel
theorem dX7_set_13 : decode cX7_set 13 = .ok (.iload_n 1, 1) := by decide +kernel
theorem dX7_set_14 : decode cX7_set 14 = .ok (.invokevirtual 143, 3) := by decide +kernel
theorem dX7_set_17 : decode cX7_set 17 = .ok (.ifCond .ne 5, 3) := by decide +kernel
theorem dX7_set_20 : decode cX7_set 20 = .ok (.iconst (-1), 1) := by decide +kernel
theorem dX7_set_21 : decode cX7_set 21 = .ok (.ireturn, 1) := by decide +kernel
theorem dX7_set_22 : decode cX7_set 22 = .ok (.aload_n 0, 1) := by decide +kernel
theorem dX7_set_23 : decode cX7_set 23 = .ok (.iload_n 1, 1) := by decide +kernel
theorem dX7_set_24 : decode cX7_set 24 = .ok (.iload_n 2, 1) := by decide +kernel
theorem dX7_set_25 : decode cX7_set 25 = .ok (.invokevirtual 162, 3) := by decide +kernel
theorem dX7_set_28 : decode cX7_set 28 = .ok (.ifCond .ne 6, 3) := by decide +kernel
theorem dX7_set_31 : decode cX7_set 31 = .ok (.bipush (-2), 2) := by decide +kernel
theorem dX7_set_33 : decode cX7_set 33 = .ok (.ireturn, 1) := by decide +kernel
theorem dX7_set_34 : decode cX7_set 34 = .ok (.aload_n 0, 1) := by decide +kernel
theorem dX7_set_35 : decode cX7_set 35 = .ok (.iload_n 1, 1) := by decide +kernel
theorem dX7_set_36 : decode cX7_set 36 = .ok (.iload_n 2, 1) := by decide +kernel
theorem dX7_set_37 : decode cX7_set 37 = .ok (.invokevirtual 165, 3) := by decide +kernel
theorem dX7_set_40 : decode cX7_set 40 = .ok (.aload_n 0, 1) := by decide +kernel
theorem dX7_set_41 : decode cX7_set 41 = .ok (.getfield 101, 3) := by decide +kernel
theorem dX7_set_44 : decode cX7_set 44 = .ok (.ireturn, 1) := by decide +kernel
theorem dX7_isIdle_0 : decode cX7_isIdle 0 = .ok (.aload_n 0, 1) := by decide +kernel
theorem dX7_isIdle_1 : decode cX7_isIdle 1 = .ok (.getfield 7, 3) := by decide +kernel
theorem dX7_isIdle_4 : decode cX7_isIdle 4 = .ok (.iconst 0, 1) := by decide +kernel
theorem dX7_isIdle_5 : decode cX7_isIdle 5 = .ok (.iaload, 1) := by decide +kernel
theorem dX7_isIdle_6 : decode cX7_isIdle 6 = .ok (.ifCond .eq 12, 3) := by decide +kernel
theorem dX7_isIdle_9 : decode cX7_isIdle 9 = .ok (.aload_n 0, 1) := by decide +kernel
theorem dX7_isIdle_10 : decode cX7_isIdle 10 = .ok (.getfield 7, 3) := by decide +kernel
theorem dX7_isIdle_13 : decode cX7_isIdle 13 = .ok (.iconst 2, 1) := by decide +kernel
theorem dX7_isIdle_14 : decode cX7_isIdle 14 = .ok (.iaload, 1) := by decide +kernel
theorem dX7_isIdle_15 : decode cX7_isIdle 15 = .ok (.ifCond .ge 7, 3) := by decide +kernel
theorem dX7_isIdle_18 : decode cX7_isIdle 18 = .ok (.iconst 1, 1) := by decide +kernel
theorem dX7_isIdle_19 : decode cX7_isIdle 19 = .ok (.goto 4, 3) := by decide +kernel
theorem dX7_isIdle_22 : decode cX7_isIdle 22 = .ok (.iconst 0, 1) := by decide +kernel
theorem dX7_isIdle_23 : decode cX7_isIdle 23 = .ok (.ireturn, 1) := by decide +kernel
theorem dX7_compact_0 : decode cX7_compact 0 = .ok (.aload_n 0, 1) := by decide +kernel
theorem dX7_compact_1 : decode cX7_compact 1 = .ok (.invokevirtual 168, 3) := by decide +kernel
theorem dX7_compact_4 : decode cX7_compact 4 = .ok (.ifCond .eq 6, 3) := by decide +kernel
theorem dX7_compact_7 : decode cX7_compact 7 = .ok (.bipush (-5), 2) := by decide +kernel
theorem dX7_compact_9 : decode cX7_compact 9 = .ok (.ireturn, 1) := by decide +kernel
theorem dX7_compact_10 : decode cX7_compact 10 = .ok (.aload_n 0, 1) := by decide +kernel
theorem dX7_compact_11 : decode cX7_compact 11 = .ok (.iconst 0, 1) := by decide +kernel
theorem dX7_compact_12 : decode cX7_compact 12 = .ok (.putfield 101, 3) := by decide +kernel
theorem dX7_compact_15 : decode cX7_compact 15 = .ok (.aload_n 0, 1) := by decide +kernel
theorem dX7_compact_16 : decode cX7_compact 16 = .ok (.invokevirtual 156, 3) := by decide +kernel
theorem dX7_compact_19 : decode cX7_compact 19 = .ok (.aload_n 0, 1) := by decide +kernel
theorem dX7_compact_20 : decode cX7_compact 20 = .ok (.aload_n 0, 1) := by decide +kernel
theorem dX7_compact_21 : decode cX7_compact 21 = .ok (.getfield 7, 3) := by decide +kernel
theorem dX7_compact_24 : decode cX7_compact 24 = .ok (.iconst 3, 1) := by decide +kernel
theorem dX7_compact_25 : decode cX7_compact 25 = .ok (.iaload, 1) := by decide +kernel
theorem dX7_compact_26 : decode cX7_compact 26 = .ok (.invokevirtual 159, 3) := by decide +kernel
theorem dX7_compact_29 : decode cX7_compact 29 = .ok (.aload_n 0, 1) := by decide +kernel
theorem dX7_compact_30 : decode cX7_compact 30 = .ok (.getfield 101, 3) := by decide +kernel
theorem dX7_compact_33 : decode cX7_compact 33 = .ok (.ireturn, 1) := by decide +kernel
theorem dX7_doToValues_0 : decode cX7_doToValues 0 = .ok (.aload_n 0, 1) := by decide +kernel
theorem dX7_doToValues_1 : decode cX7_doToValues 1 = .ok (.getfield 44, 3) := by decide +kernel
theorem dX7_doToValues_4 : decode cX7_doToValues 4 = .ok (.iload_n 1, 1) := by decide +kernel
theorem dX7_doToValues_5 : decode cX7_doToValues 5 = .ok (.iaload, 1) := by decide +kernel
theorem dX7_doToValues_6 : decode cX7_doToValues 6 = .ok (.istore_n 2, 1) := by decide +kernel
theorem dX7_doToValues_7 : decode cX7_doToValues 7 = .ok (.aload_n 0, 1) := by decide +kernel
theorem dX7_doToValues_8 : decode cX7_doToValues 8 = .ok (.getfield 41, 3) := by decide +kernel
theorem dX7_doToValues_11 : decode cX7_doToValues 11 = .ok (.iload_n 1, 1) := by decide +kernel
theorem dX7_doToValues_12 : decode cX7_doToValues 12 = .ok (.iaload, 1) := by decide +kernel
theorem dX7_doToValues_13 : decode cX7_doToValues 13 = .ok (.tableswitch 65 0 2 #[27, 42, 45], 27) := by decide +kernel
theorem dX7_doToValues_40 : decode cX7_doToValues 40 = .ok (.aload_n 0, 1) := by decide +kernel
theorem dX7_doToValues_41 : decode cX7_doToValues 41 = .ok (.getfield 53, 3) := by decide +kernel
theorem dX7_doToValues_44 : decode cX7_doToValues 44 = .ok (.iload_n 2, 1) := by decide +kernel
theorem dX7_doToValues_45 : decode cX7_doToValues 45 = .ok (.aload_n 0, 1) := by decide +kernel
theorem dX7_doToValues_46 : decode cX7_doToValues 46 = .ok (.getfield 50, 3) := by decide +kernel
theorem dX7_doToValues_49 : decode cX7_doToValues 49 = .ok (.iload_n 1, 1) := by decide +kernel
theorem dX7_doToValues_50 : decode cX7_doToValues 50 = .ok (.iaload, 1) := by decide +kernel
theorem dX7_doToValues_51 : decode cX7_doToValues 51 = .ok (.iastore, 1) := by decide +kernel
theorem dX7_doToValues_52 : decode cX7_doToValues 52 = .ok (.goto 53, 3) := by decide +kernel
theorem dX7_doToValues_55 : decode cX7_doToValues 55 = .ok (.goto 50, 3) := by decide +kernel
theorem dX7_doToValues_58 : decode cX7_doToValues 58 = .ok (.aload_n 0, 1) := by decide +kernel
theorem dX7_doToValues_59 : decode cX7_doToValues 59 = .ok (.getfield 53, 3) := by decide +kernel
theorem dX7_doToValues_62 : decode cX7_doToValues 62 = .ok (.aload_n 0, 1) := by decide +kernel
theorem dX7_doToValues_63 : decode cX7_doToValues 63 = .ok (.getfield 47, 3) := by decide +kernel
theorem dX7_doToValues_66 : decode cX7_doToValues 66 = .ok (.iload_n 1, 1) := by decide +kernel
theorem dX7_doToValues_67 : decode cX7_doToValues 67 = .ok (.iaload, 1) := by decide +kernel
theorem dX7_doToValues_68 : decode cX7_doToValues 68 = .ok (.aload_n 0, 1) := by decide +kernel
theorem dX7_doToValues_69 : decode cX7_doToValues 69 = .ok (.getfield 53, 3) := by decide +kernel
theorem dX7_doToValues_72 : decode cX7_doToValues 72 = .ok (.iload_n 2, 1) := by decide +kernel
theorem dX7_doToValues_73 : decode cX7_doToValues 73 = .ok (.iaload, 1) := by decide +kernel
theorem dX7_doToValues_74 : decode cX7_doToValues 74 = .ok (.iastore, 1) := by decide +kernel
theorem dX7_doToValues_75 : decode cX7_doToValues 75 = .ok (.goto 30, 3) := by decide +kernel
theorem dX7_doToValues_78 : decode cX7_doToValues 78 = .ok (.aload_n 0, 1) := by decide +kernel
theorem dX7_doToValues_79 : decode cX7_doToValues 79 = .ok (.getfield 53, 3) := by decide +kernel
theorem dX7_doToValues_82 : decode cX7_doToValues 82 = .ok (.iload_n 2, 1) := by decide +kernel
theorem dX7_doToValues_83 : decode cX7_doToValues 83 = .ok (.aload_n 0, 1) := by decide +kernel
theorem dX7_doToValues_84 : decode cX7_doToValues 84 = .ok (.getfield 41, 3) := by decide +kernel
theorem dX7_doToValues_87 : decode cX7_doToValues 87 = .ok (.iload_n 1, 1) := by decide +kernel
theorem dX7_doToValues_88 : decode cX7_doToValues 88 = .ok (.iaload, 1) := by decide +kernel
theorem dX7_doToValues_89 : decode cX7_doToValues 89 = .ok (.aload_n 0, 1) := by decide +kernel
theorem dX7_doToValues_90 : decode cX7_doToValues 90 = .ok (.getfield 53, 3) := by decide +kernel
theorem dX7_doToValues_93 : decode cX7_doToValues 93 = .ok (.iload_n 2, 1) := by decide +kernel
theorem dX7_doToValues_94 : decode cX7_doToValues 94 = .ok (.iaload, 1) := by decide +kernel
theorem dX7_doToValues_95 : decode cX7_doToValues 95 = .ok (.aload_n 0, 1) := by decide +kernel
theorem dX7_doToValues_96 : decode cX7_doToValues 96 = .ok (.getfield 47, 3) := by decide +kernel
theorem dX7_doToValues_99 : decode cX7_doToValues 99 = .ok (.iload_n 1, 1) := by decide +kernel
theorem dX7_doToValues_100 : decode cX7_doToValues 100 = .ok (.iaload, 1) := by decide +kernel
theorem dX7_doToValues_101 : decode cX7_doToValues 101 = .ok (.invokestatic 75, 3) := by decide +kernel
theorem dX7_doToValues_104 : decode cX7_doToValues 104 = .ok (.iastore, 1) := by decide +kernel
theorem dX7_doToValues_105 : decode cX7_doToValues 105 = .ok (.return_, 1) := by decide +kernel
theorem dX7_migrateTo_0 : decode cX7_migrateTo 0 = .ok (.aload_n 0, 1) := by decide +kernel
theorem dX7_migrateTo_1 : decode cX7_migrateTo 1 = .ok (.invokevirtual 156, 3) := by decide +kernel
theorem dX7_migrateTo_4 : decode cX7_migrateTo 4 = .ok (.aload_n 0, 1) := by decide +kernel
theorem dX7_migrateTo_5 : decode cX7_migrateTo 5 = .ok (.getfield 7, 3) := by decide +kernel
theorem dX7_migrateTo_8 : decode cX7_migrateTo 8 = .ok (.iconst 3, 1) := by decide +kernel
theorem dX7_migrateTo_9 : decode cX7_migrateTo 9 = .ok (.iaload, 1) := by decide +kernel
theorem dX7_migrateTo_10 : decode cX7_migrateTo 10 = .ok (.iconst 1, 1) := by decide +kernel
theorem dX7_migrateTo_11 : decode cX7_migrateTo 11 = .ok (.iadd, 1) := by decide +kernel
theorem dX7_migrateTo_12 : decode cX7_migrateTo 12 = .ok (.istore_n 2, 1) := by decide +kernel
theorem dX7_migrateTo_13 : decode cX7_migrateTo 13 = .ok (.iload_n 2, 1) := by decide +kernel
theorem dX7_migrateTo_14 : decode cX7_migrateTo 14 = .ok (.iload_n 1, 1) := by decide +kernel
theorem dX7_migrateTo_15 : decode cX7_migrateTo 15 = .ok (.if_icmp .gt 37, 3) := by decide +kernel
theorem dX7_migrateTo_18 : decode cX7_migrateTo 18 = .ok (.iconst 0, 1) := by decide +kernel
theorem dX7_migrateTo_19 : decode cX7_migrateTo 19 = .ok (.istore_n 3, 1) := by decide +kernel
theorem dX7_migrateTo_20 : decode cX7_migrateTo 20 = .ok (.iload_n 3, 1) := by decide +kernel
theorem dX7_migrateTo_21 : decode cX7_migrateTo 21 = .ok (.aload_n 0, 1) := by decide +kernel
theorem dX7_migrateTo_22 : decode cX7_migrateTo 22 = .ok (.getfield 38, 3) := by decide +kernel
theorem dX7_migrateTo_25 : decode cX7_migrateTo 25 = .ok (.iload_n 2, 1) := by decide +kernel
theorem dX7_migrateTo_26 : decode cX7_migrateTo 26 = .ok (.iaload, 1) := by decide +kernel
theorem dX7_migrateTo_27 : decode cX7_migrateTo 27 = .ok (.if_icmp .ge 19, 3) := by decide +kernel
theorem dX7_migrateTo_30 : decode cX7_migrateTo 30 = .ok (.aload_n 0, 1) := by decide +kernel
theorem dX7_migrateTo_31 : decode cX7_migrateTo 31 = .ok (.bipush 28, 2) := by decide +kernel
theorem dX7_migrateTo_33 : decode cX7_migrateTo 33 = .ok (.iload_n 2, 1) := by decide +kernel
theorem dX7_migrateTo_34 : decode cX7_migrateTo 34 = .ok (.imul, 1) := by decide +kernel
theorem dX7_migrateTo_35 : decode cX7_migrateTo 35 = .ok (.iload_n 3, 1) := by decide +kernel
theorem dX7_migrateTo_36 : decode cX7_migrateTo 36 = .ok (.iadd, 1) := by decide +kernel
theorem dX7_migrateTo_37 : decode cX7_migrateTo 37 = .ok (.invokevirtual 172, 3) := by decide +kernel
theorem dX7_migrateTo_40 : decode cX7_migrateTo 40 = .ok (.iinc 3 1, 3) := by decide +kernel
theorem dX7_migrateTo_43 : decode cX7_migrateTo 43 = .ok (.goto (-23), 3) := by decide +kernel
theorem dX7_migrateTo_46 : decode cX7_migrateTo 46 = .ok (.iinc 2 1, 3) := by decide +kernel
theorem dX7_migrateTo_49 : decode cX7_migrateTo 49 = .ok (.goto (-36), 3) := by decide +kernel
theorem dX7_migrateTo_52 : decode cX7_migrateTo 52 = .ok (.return_, 1) := by decide +kernel
theorem dX7_migrate_0 : decode cX7_migrate 0 = .ok (.aload_n 0, 1) := by decide +kernel
theorem dX7_migrate_1 : decode cX7_migrate 1 = .ok (.invokevirtual 168, 3) := by decide +kernel
theorem dX7_migrate_4 : decode cX7_migrate 4 = .ok (.ifCond .eq 6, 3) := by decide +kernel
theorem dX7_migrate_7 : decode cX7_migrate 7 = .ok (.bipush (-5), 2) := by decide +kernel
theorem dX7_migrate_9 : decode cX7_migrate 9 = .ok (.ireturn, 1) := by decide +kernel
theorem dX7_migrate_10 : decode cX7_migrate 10 = .ok (.aload_n 0, 1) := by decide +kernel
theorem dX7_migrate_11 : decode cX7_migrate 11 = .ok (.iload_n 1, 1) := by decide +kernel
theorem dX7_migrate_12 : decode cX7_migrate 12 = .ok (.invokevirtual 97, 3) := by decide +kernel
theorem dX7_migrate_15 : decode cX7_migrate 15 = .ok (.ifCond .ne 5, 3) := by decide +kernel
theorem dX7_migrate_18 : decode cX7_migrate 18 = .ok (.iconst (-1), 1) := by decide +kernel
theorem dX7_migrate_19 : decode cX7_migrate 19 = .ok (.ireturn, 1) := by decide +kernel
theorem dX7_migrate_20 : decode cX7_migrate 20 = .ok (.iload_n 1, 1) := by decide +kernel
theorem dX7_migrate_21 : decode cX7_migrate 21 = .ok (.aload_n 0, 1) := by decide +kernel
theorem dX7_migrate_22 : decode cX7_migrate 22 = .ok (.getfield 7, 3) := by decide +kernel
theorem dX7_migrate_25 : decode cX7_migrate 25 = .ok (.iconst 3, 1) := by decide +kernel
theorem dX7_migrate_26 : decode cX7_migrate 26 = .ok (.iaload, 1) := by decide +kernel
theorem dX7_migrate_27 : decode cX7_migrate 27 = .ok (.if_icmp .gt 6, 3) := by decide +kernel
theorem dX7_migrate_30 : decode cX7_migrate 30 = .ok (.bipush (-2), 2) := by decide +kernel
theorem dX7_migrate_32 : decode cX7_migrate 32 = .ok (.ireturn, 1) := by decide +kernel
theorem dX7_migrate_33 : decode cX7_migrate 33 = .ok (.aload_n 0, 1) := by decide +kernel
theorem dX7_migrate_34 : decode cX7_migrate 34 = .ok (.iconst 0, 1) := by decide +kernel
theorem dX7_migrate_35 : decode cX7_migrate 35 = .ok (.putfield 101, 3) := by decide +kernel
theorem dX7_migrate_38 : decode cX7_migrate 38 = .ok (.aload_n 0, 1) := by decide +kernel
theorem dX7_migrate_39 : decode cX7_migrate 39 = .ok (.iload_n 1, 1) := by decide +kernel
theorem dX7_migrate_40 : decode cX7_migrate 40 = .ok (.invokevirtual 175, 3) := by decide +kernel
theorem dX7_migrate_43 : decode cX7_migrate 43 = .ok (.aload_n 0, 1) := by decide +kernel
theorem dX7_migrate_44 : decode cX7_migrate 44 = .ok (.iload_n 1, 1) := by decide +kernel
theorem dX7_migrate_45 : decode cX7_migrate 45 = .ok (.invokevirtual 159, 3) := by decide +kernel
theorem dX7_migrate_48 : decode cX7_migrate 48 = .ok (.aload_n 0, 1) := by decide +kernel
theorem dX7_migrate_49 : decode cX7_migrate 49 = .ok (.getfield 101, 3) := by decide +kernel
theorem dX7_migrate_52 : decode cX7_migrate 52 = .ok (.ireturn, 1) := by decide +kernel
theorem dX7_factory_0 : decode cX7_factory 0 = .ok (.aload_n 0, 1) := by decide +kernel
theorem dX7_factory_1 : decode cX7_factory 1 = .ok (.getfield 7, 3) := by decide +kernel
theorem dX7_factory_4 : decode cX7_factory 4 = .ok (.iconst 0, 1) := by decide +kernel
theorem dX7_factory_5 : decode cX7_factory 5 = .ok (.iaload, 1) := by decide +kernel
theorem dX7_factory_6 : decode cX7_factory 6 = .ok (.ifCond .ne 6, 3) := by decide +kernel
theorem dX7_factory_9 : decode cX7_factory 9 = .ok (.bipush (-5), 2) := by decide +kernel
theorem dX7_factory_11 : decode cX7_factory 11 = .ok (.ireturn, 1) := by decide +kernel
theorem dX7_factory_12 : decode cX7_factory 12 = .ok (.aload_n 0, 1) := by decide +kernel
theorem dX7_factory_13 : decode cX7_factory 13 = .ok (.iload_n 1, 1) := by decide +kernel
theorem dX7_factory_14 : decode cX7_factory 14 = .ok (.invokevirtual 97, 3) := by decide +kernel
theorem dX7_factory_17 : decode cX7_factory 17 = .ok (.ifCond .ne 5, 3) := by decide +kernel
theorem dX7_factory_20 : decode cX7_factory 20 = .ok (.iconst (-1), 1) := by decide +kernel
theorem dX7_factory_21 : decode cX7_factory 21 = .ok (.ireturn, 1) := by decide +kernel
theorem dX7_factory_22 : decode cX7_factory 22 = .ok (.aload_n 0, 1) := by decide +kernel
theorem dX7_factory_23 : decode cX7_factory 23 = .ok (.iconst 0, 1) := by decide +kernel
theorem dX7_factory_24 : decode cX7_factory 24 = .ok (.putfield 101, 3) := by decide +kernel
theorem dX7_factory_27 : decode cX7_factory 27 = .ok (.aload_n 0, 1) := by decide +kernel
theorem dX7_factory_28 : decode cX7_factory 28 = .ok (.iconst 0, 1) := by decide +kernel
theorem dX7_factory_29 : decode cX7_factory 29 = .ok (.invokevirtual 146, 3) := by decide +kernel
theorem dX7_factory_32 : decode cX7_factory 32 = .ok (.aload_n 0, 1) := by decide +kernel
theorem dX7_factory_33 : decode cX7_factory 33 = .ok (.iconst 1, 1) := by decide +kernel
theorem dX7_factory_34 : decode cX7_factory 34 = .ok (.invokevirtual 146, 3) := by decide +kernel
theorem dX7_factory_37 : decode cX7_factory 37 = .ok (.aload_n 0, 1) := by decide +kernel
theorem dX7_factory_38 : decode cX7_factory 38 = .ok (.iconst 0, 1) := by decide +kernel
theorem dX7_factory_39 : decode cX7_factory 39 = .ok (.iload_n 1, 1) := by decide +kernel
theorem dX7_factory_40 : decode cX7_factory 40 = .ok (.iconst 0, 1) := by decide +kernel
theorem dX7_factory_41 : decode cX7_factory 41 = .ok (.invokevirtual 153, 3) := by decide +kernel
theorem dX7_factory_44 : decode cX7_factory 44 = .ok (.aload_n 0, 1) := by decide +kernel
theorem dX7_factory_45 : decode cX7_factory 45 = .ok (.getfield 7, 3) := by decide +kernel
theorem dX7_factory_48 : decode cX7_factory 48 = .ok (.iconst 0, 1) := by decide +kernel
theorem dX7_factory_49 : decode cX7_factory 49 = .ok (.iaload, 1) := by decide +kernel
theorem dX7_factory_50 : decode cX7_factory 50 = .ok (.iconst 1, 1) := by decide +kernel
theorem dX7_factory_51 : decode cX7_factory 51 = .ok (.if_icmp .ne 36, 3) := by decide +kernel
theorem dX7_factory_54 : decode cX7_factory 54 = .ok (.aload_n 0, 1) := by decide +kernel
theorem dX7_factory_55 : decode cX7_factory 55 = .ok (.getfield 7, 3) := by decide +kernel
theorem dX7_factory_58 : decode cX7_factory 58 = .ok (.iconst 2, 1) := by decide +kernel
theorem dX7_factory_59 : decode cX7_factory 59 = .ok (.iconst 0, 1) := by decide +kernel
theorem dX7_factory_60 : decode cX7_factory 60 = .ok (.iastore, 1) := by decide +kernel
theorem dX7_factory_61 : decode cX7_factory 61 = .ok (.aload_n 0, 1) := by decide +kernel
theorem dX7_factory_62 : decode cX7_factory 62 = .ok (.getfield 7, 3) := by decide +kernel
theorem dX7_factory_65 : decode cX7_factory 65 = .ok (.iconst 3, 1) := by decide +kernel
theorem dX7_factory_66 : decode cX7_factory 66 = .ok (.iload_n 1, 1) := by decide +kernel
theorem dX7_factory_67 : decode cX7_factory 67 = .ok (.iastore, 1) := by decide +kernel
theorem dX7_factory_68 : decode cX7_factory 68 = .ok (.aload_n 0, 1) := by decide +kernel
theorem dX7_factory_69 : decode cX7_factory 69 = .ok (.getfield 7, 3) := by decide +kernel
theorem dX7_factory_72 : decode cX7_factory 72 = .ok (.iconst 4, 1) := by decide +kernel
theorem dX7_factory_73 : decode cX7_factory 73 = .ok (.iconst 0, 1) := by decide +kernel
theorem dX7_factory_74 : decode cX7_factory 74 = .ok (.iastore, 1) := by decide +kernel
theorem dX7_factory_75 : decode cX7_factory 75 = .ok (.aload_n 0, 1) := by decide +kernel
theorem dX7_factory_76 : decode cX7_factory 76 = .ok (.getfield 7, 3) := by decide +kernel
theorem dX7_factory_79 : decode cX7_factory 79 = .ok (.iconst 5, 1) := by decide +kernel
theorem dX7_factory_80 : decode cX7_factory 80 = .ok (.iconst 3, 1) := by decide +kernel
theorem dX7_factory_81 : decode cX7_factory 81 = .ok (.iastore, 1) := by decide +kernel
theorem dX7_factory_82 : decode cX7_factory 82 = .ok (.aload_n 0, 1) := by decide +kernel
theorem dX7_factory_83 : decode cX7_factory 83 = .ok (.iload_n 1, 1) := by decide +kernel
theorem dX7_factory_84 : decode cX7_factory 84 = .ok (.invokevirtual 136, 3) := by decide +kernel
theorem dX7_factory_87 : decode cX7_factory 87 = .ok (.aload_n 0, 1) := by decide +kernel
theorem dX7_factory_88 : decode cX7_factory 88 = .ok (.getfield 101, 3) := by decide +kernel
theorem dX7_factory_91 : decode cX7_factory 91 = .ok (.ireturn, 1) := by decide +kernel
theorem dX7_isCell_0 : decode cX7_isCell 0 = .ok (.iload_n 0, 1) := by decide +kernel
theorem dX7_isCell_1 : decode cX7_isCell 1 = .ok (.iconst 0, 1) := by decide +kernel
theorem dX7_isCell_2 : decode cX7_isCell 2 = .ok (.iconst 1, 1) := by decide +kernel
theorem dX7_isCell_3 : decode cX7_isCell 3 = .ok (.invokestatic 63, 3) := by decide +kernel
theorem dX7_isCell_6 : decode cX7_isCell 6 = .ok (.ifCond .eq 17, 3) := by decide +kernel
theorem dX7_isCell_9 : decode cX7_isCell 9 = .ok (.iload_n 1, 1) := by decide +kernel
theorem dX7_isCell_10 : decode cX7_isCell 10 = .ok (.iconst 0, 1) := by decide +kernel
theorem dX7_isCell_11 : decode cX7_isCell 11 = .ok (.bipush 47, 2) := by decide +kernel
theorem dX7_isCell_13 : decode cX7_isCell 13 = .ok (.invokestatic 63, 3) := by decide +kernel
theorem dX7_isCell_16 : decode cX7_isCell 16 = .ok (.ifCond .eq 7, 3) := by decide +kernel
theorem dX7_isCell_19 : decode cX7_isCell 19 = .ok (.iconst 1, 1) := by decide +kernel
theorem dX7_isCell_20 : decode cX7_isCell 20 = .ok (.goto 4, 3) := by decide +kernel
theorem dX7_isCell_23 : decode cX7_isCell 23 = .ok (.iconst 0, 1) := by decide +kernel
theorem dX7_isCell_24 : decode cX7_isCell 24 = .ok (.ireturn, 1) := by decide +kernel
theorem dX7_cell_0 : decode cX7_cell 0 = .ok (.iload_n 1, 1) := by decide +kernel
theorem dX7_cell_1 : decode cX7_cell 1 = .ok (.iload_n 2, 1) := by decide +kernel
theorem dX7_cell_2 : decode cX7_cell 2 = .ok (.invokestatic 178, 3) := by decide +kernel
theorem dX7_cell_5 : decode cX7_cell 5 = .ok (.ifCond .eq 12, 3) := by decide +kernel
theorem dX7_cell_8 : decode cX7_cell 8 = .ok (.aload_n 0, 1) := by decide +kernel
theorem dX7_cell_9 : decode cX7_cell 9 = .ok (.iload_n 1, 1) := by decide +kernel
theorem dX7_cell_10 : decode cX7_cell 10 = .ok (.iload_n 2, 1) := by decide +kernel
theorem dX7_cell_11 : decode cX7_cell 11 = .ok (.invokevirtual 114, 3) := by decide +kernel
theorem dX7_cell_14 : decode cX7_cell 14 = .ok (.goto 4, 3) := by decide +kernel
theorem dX7_cell_17 : decode cX7_cell 17 = .ok (.iconst (-1), 1) := by decide +kernel
theorem dX7_cell_18 : decode cX7_cell 18 = .ok (.ireturn, 1) := by decide +kernel
theorem dX7_spoil_0 : decode cX7_spoil 0 = .ok (.iload_n 1, 1) := by decide +kernel
theorem dX7_spoil_1 : decode cX7_spoil 1 = .ok (.iload_n 2, 1) := by decide +kernel
theorem dX7_spoil_2 : decode cX7_spoil 2 = .ok (.invokestatic 178, 3) := by decide +kernel
theorem dX7_spoil_5 : decode cX7_spoil 5 = .ok (.ifCond .ne 5, 3) := by decide +kernel
theorem dX7_spoil_8 : decode cX7_spoil 8 = .ok (.iconst (-1), 1) := by decide +kernel
theorem dX7_spoil_9 : decode cX7_spoil 9 = .ok (.ireturn, 1) := by decide +kernel
theorem dX7_spoil_10 : decode cX7_spoil 10 = .ok (.iload_n 3, 1) := by decide +kernel
theorem dX7_spoil_11 : decode cX7_spoil 11 = .ok (.bipush (-6), 2) := by decide +kernel
theorem dX7_spoil_13 : decode cX7_spoil 13 = .ok (.if_icmp .eq 17, 3) := by decide +kernel
theorem dX7_spoil_16 : decode cX7_spoil 16 = .ok (.iload_n 3, 1) := by decide +kernel
theorem dX7_spoil_17 : decode cX7_spoil 17 = .ok (.iconst 0, 1) := by decide +kernel
theorem dX7_spoil_18 : decode cX7_spoil 18 = .ok (.sipush 255, 3) := by decide +kernel
theorem dX7_spoil_21 : decode cX7_spoil 21 = .ok (.invokestatic 63, 3) := by decide +kernel
theorem dX7_spoil_24 : decode cX7_spoil 24 = .ok (.ifCond .ne 6, 3) := by decide +kernel
theorem dX7_spoil_27 : decode cX7_spoil 27 = .ok (.bipush (-2), 2) := by decide +kernel
theorem dX7_spoil_29 : decode cX7_spoil 29 = .ok (.ireturn, 1) := by decide +kernel
theorem dX7_spoil_30 : decode cX7_spoil 30 = .ok (.aload_n 0, 1) := by decide +kernel
theorem dX7_spoil_31 : decode cX7_spoil 31 = .ok (.iload_n 1, 1) := by decide +kernel
theorem dX7_spoil_32 : decode cX7_spoil 32 = .ok (.iload_n 2, 1) := by decide +kernel
theorem dX7_spoil_33 : decode cX7_spoil 33 = .ok (.invokevirtual 114, 3) := by decide +kernel
theorem dX7_spoil_36 : decode cX7_spoil 36 = .ok (.istore 4, 2) := by decide +kernel
theorem dX7_spoil_38 : decode cX7_spoil 38 = .ok (.aload_n 0, 1) := by decide +kernel
theorem dX7_spoil_39 : decode cX7_spoil 39 = .ok (.getfield 7, 3) := by decide +kernel
theorem dX7_spoil_42 : decode cX7_spoil 42 = .ok (.bipush 21, 2) := by decide +kernel
theorem dX7_spoil_44 : decode cX7_spoil 44 = .ok (.bipush 48, 2) := by decide +kernel
theorem dX7_spoil_46 : decode cX7_spoil 46 = .ok (.iload_n 1, 1) := by decide +kernel
theorem dX7_spoil_47 : decode cX7_spoil 47 = .ok (.imul, 1) := by decide +kernel
theorem dX7_spoil_48 : decode cX7_spoil 48 = .ok (.iadd, 1) := by decide +kernel
theorem dX7_spoil_49 : decode cX7_spoil 49 = .ok (.iload_n 2, 1) := by decide +kernel
theorem dX7_spoil_50 : decode cX7_spoil 50 = .ok (.iadd, 1) := by decide +kernel
theorem dX7_spoil_51 : decode cX7_spoil 51 = .ok (.iload_n 3, 1) := by decide +kernel
theorem dX7_spoil_52 : decode cX7_spoil 52 = .ok (.iastore, 1) := by decide +kernel
theorem dX7_spoil_53 : decode cX7_spoil 53 = .ok (.iload 4, 2) := by decide +kernel
theorem dX7_spoil_55 : decode cX7_spoil 55 = .ok (.ireturn, 1) := by decide +kernel
theorem dX7_cellsOf_0 : decode cX7_cellsOf 0 = .ok (.iconst 0, 1) := by decide +kernel
theorem dX7_cellsOf_1 : decode cX7_cellsOf 1 = .ok (.istore_n 2, 1) := by decide +kernel
theorem dX7_cellsOf_2 : decode cX7_cellsOf 2 = .ok (.iconst 0, 1) := by decide +kernel
theorem dX7_cellsOf_3 : decode cX7_cellsOf 3 = .ok (.istore_n 3, 1) := by decide +kernel
theorem dX7_cellsOf_4 : decode cX7_cellsOf 4 = .ok (.iload_n 3, 1) := by decide +kernel
theorem dX7_cellsOf_5 : decode cX7_cellsOf 5 = .ok (.bipush 48, 2) := by decide +kernel
theorem dX7_cellsOf_7 : decode cX7_cellsOf 7 = .ok (.if_icmp .ge 28, 3) := by decide +kernel
theorem dX7_cellsOf_10 : decode cX7_cellsOf 10 = .ok (.iload_n 2, 1) := by decide +kernel
theorem dX7_cellsOf_11 : decode cX7_cellsOf 11 = .ok (.aload_n 0, 1) := by decide +kernel
theorem dX7_cellsOf_12 : decode cX7_cellsOf 12 = .ok (.iload_n 1, 1) := by decide +kernel
theorem dX7_cellsOf_13 : decode cX7_cellsOf 13 = .ok (.iload_n 3, 1) := by decide +kernel
theorem dX7_cellsOf_14 : decode cX7_cellsOf 14 = .ok (.invokevirtual 114, 3) := by decide +kernel
theorem dX7_cellsOf_17 : decode cX7_cellsOf 17 = .ok (.bipush (-6), 2) := by decide +kernel
theorem dX7_cellsOf_19 : decode cX7_cellsOf 19 = .ok (.if_icmp .ne 7, 3) := by decide +kernel
theorem dX7_cellsOf_22 : decode cX7_cellsOf 22 = .ok (.iconst 0, 1) := by decide +kernel
theorem dX7_cellsOf_23 : decode cX7_cellsOf 23 = .ok (.goto 4, 3) := by decide +kernel
theorem dX7_cellsOf_26 : decode cX7_cellsOf 26 = .ok (.iconst 1, 1) := by decide +kernel
theorem dX7_cellsOf_27 : decode cX7_cellsOf 27 = .ok (.iadd, 1) := by decide +kernel
theorem dX7_cellsOf_28 : decode cX7_cellsOf 28 = .ok (.istore_n 2, 1) := by decide +kernel
theorem dX7_cellsOf_29 : decode cX7_cellsOf 29 = .ok (.iinc 3 1, 3) := by decide +kernel
theorem dX7_cellsOf_32 : decode cX7_cellsOf 32 = .ok (.goto (-28), 3) := by decide +kernel
theorem dX7_cellsOf_35 : decode cX7_cellsOf 35 = .ok (.iload_n 2, 1) := by decide +kernel
theorem dX7_cellsOf_36 : decode cX7_cellsOf 36 = .ok (.ireturn, 1) := by decide +kernel
theorem dX7_recordsOf_0 : decode cX7_recordsOf 0 = .ok (.aload_n 0, 1) := by decide +kernel
theorem dX7_recordsOf_1 : decode cX7_recordsOf 1 = .ok (.iload_n 1, 1) := by decide +kernel
theorem dX7_recordsOf_2 : decode cX7_recordsOf 2 = .ok (.invokevirtual 129, 3) := by decide +kernel
theorem dX7_recordsOf_5 : decode cX7_recordsOf 5 = .ok (.ifCond .ne 5, 3) := by decide +kernel
theorem dX7_recordsOf_8 : decode cX7_recordsOf 8 = .ok (.iconst 0, 1) := by decide +kernel
theorem dX7_recordsOf_9 : decode cX7_recordsOf 9 = .ok (.ireturn, 1) := by decide +kernel
theorem dX7_recordsOf_10 : decode cX7_recordsOf 10 = .ok (.aload_n 0, 1) := by decide +kernel
theorem dX7_recordsOf_11 : decode cX7_recordsOf 11 = .ok (.iload_n 1, 1) := by decide +kernel
theorem dX7_recordsOf_12 : decode cX7_recordsOf 12 = .ok (.aload_n 0, 1) := by decide +kernel
theorem dX7_recordsOf_13 : decode cX7_recordsOf 13 = .ok (.iload_n 1, 1) := by decide +kernel
theorem dX7_recordsOf_14 : decode cX7_recordsOf 14 = .ok (.iconst 0, 1) := by decide +kernel
theorem dX7_recordsOf_15 : decode cX7_recordsOf 15 = .ok (.invokevirtual 114, 3) := by decide +kernel
theorem dX7_recordsOf_18 : decode cX7_recordsOf 18 = .ok (.sipush 200, 3) := by decide +kernel
theorem dX7_recordsOf_21 : decode cX7_recordsOf 21 = .ok (.isub, 1) := by decide +kernel
theorem dX7_recordsOf_22 : decode cX7_recordsOf 22 = .ok (.iconst 0, 1) := by decide +kernel
theorem dX7_recordsOf_23 : decode cX7_recordsOf 23 = .ok (.invokevirtual 139, 3) := by decide +kernel
theorem dX7_recordsOf_26 : decode cX7_recordsOf 26 = .ok (.iload_n 2, 1) := by decide +kernel
theorem dX7_recordsOf_27 : decode cX7_recordsOf 27 = .ok (.ifCond .eq 10, 3) := by decide +kernel
theorem dX7_recordsOf_30 : decode cX7_recordsOf 30 = .ok (.aload_n 0, 1) := by decide +kernel
theorem dX7_recordsOf_31 : decode cX7_recordsOf 31 = .ok (.getfield 117, 3) := by decide +kernel
theorem dX7_recordsOf_34 : decode cX7_recordsOf 34 = .ok (.goto 7, 3) := by decide +kernel
theorem dX7_recordsOf_37 : decode cX7_recordsOf 37 = .ok (.aload_n 0, 1) := by decide +kernel
theorem dX7_recordsOf_38 : decode cX7_recordsOf 38 = .ok (.getfield 120, 3) := by decide +kernel
theorem dX7_recordsOf_41 : decode cX7_recordsOf 41 = .ok (.ireturn, 1) := by decide +kernel
theorem dX7_page_0 : decode cX7_page 0 = .ok (.iload_n 1, 1) := by decide +kernel
theorem dX7_page_1 : decode cX7_page 1 = .ok (.iconst 0, 1) := by decide +kernel
theorem dX7_page_2 : decode cX7_page 2 = .ok (.iconst 1, 1) := by decide +kernel
theorem dX7_page_3 : decode cX7_page 3 = .ok (.invokestatic 63, 3) := by decide +kernel
theorem dX7_page_6 : decode cX7_page 6 = .ok (.ifCond .ne 5, 3) := by decide +kernel
theorem dX7_page_9 : decode cX7_page 9 = .ok (.iconst (-1), 1) := by decide +kernel
theorem dX7_page_10 : decode cX7_page 10 = .ok (.ireturn, 1) := by decide +kernel
theorem dX7_page_11 : decode cX7_page 11 = .ok (.iload_n 2, 1) := by decide +kernel
theorem dX7_page_12 : decode cX7_page 12 = .ok (.tableswitch 94 0 5 #[40, 50, 60, 74, 81, 88], 40) := by decide +kernel
theorem dX7_page_52 : decode cX7_page 52 = .ok (.aload_n 0, 1) := by decide +kernel
theorem dX7_page_53 : decode cX7_page 53 = .ok (.getfield 7, 3) := by decide +kernel
theorem dX7_page_56 : decode cX7_page 56 = .ok (.bipush 7, 2) := by decide +kernel
theorem dX7_page_58 : decode cX7_page 58 = .ok (.iload_n 1, 1) := by decide +kernel
theorem dX7_page_59 : decode cX7_page 59 = .ok (.iadd, 1) := by decide +kernel
theorem dX7_page_60 : decode cX7_page 60 = .ok (.iaload, 1) := by decide +kernel
theorem dX7_page_61 : decode cX7_page 61 = .ok (.ireturn, 1) := by decide +kernel
theorem dX7_page_62 : decode cX7_page 62 = .ok (.aload_n 0, 1) := by decide +kernel
theorem dX7_page_63 : decode cX7_page 63 = .ok (.getfield 7, 3) := by decide +kernel
theorem dX7_page_66 : decode cX7_page 66 = .ok (.bipush 9, 2) := by decide +kernel
theorem dX7_page_68 : decode cX7_page 68 = .ok (.iload_n 1, 1) := by decide +kernel
theorem dX7_page_69 : decode cX7_page 69 = .ok (.iadd, 1) := by decide +kernel
theorem dX7_page_70 : decode cX7_page 70 = .ok (.iaload, 1) := by decide +kernel
theorem dX7_page_71 : decode cX7_page 71 = .ok (.ireturn, 1) := by decide +kernel
theorem dX7_page_72 : decode cX7_page 72 = .ok (.aload_n 0, 1) := by decide +kernel
theorem dX7_page_73 : decode cX7_page 73 = .ok (.iload_n 1, 1) := by decide +kernel
theorem dX7_page_74 : decode cX7_page 74 = .ok (.invokevirtual 129, 3) := by decide +kernel
theorem dX7_page_77 : decode cX7_page 77 = .ok (.ifCond .eq 7, 3) := by decide +kernel
theorem dX7_page_80 : decode cX7_page 80 = .ok (.iconst 1, 1) := by decide +kernel
theorem dX7_page_81 : decode cX7_page 81 = .ok (.goto 4, 3) := by decide +kernel
theorem dX7_page_84 : decode cX7_page 84 = .ok (.iconst 0, 1) := by decide +kernel
theorem dX7_page_85 : decode cX7_page 85 = .ok (.ireturn, 1) := by decide +kernel
theorem dX7_page_86 : decode cX7_page 86 = .ok (.aload_n 0, 1) := by decide +kernel
theorem dX7_page_87 : decode cX7_page 87 = .ok (.iload_n 1, 1) := by decide +kernel
theorem dX7_page_88 : decode cX7_page 88 = .ok (.iconst 1, 1) := by decide +kernel
theorem dX7_page_89 : decode cX7_page 89 = .ok (.invokevirtual 181, 3) := by decide +kernel
theorem dX7_page_92 : decode cX7_page 92 = .ok (.ireturn, 1) := by decide +kernel
theorem dX7_page_93 : decode cX7_page 93 = .ok (.aload_n 0, 1) := by decide +kernel
theorem dX7_page_94 : decode cX7_page 94 = .ok (.iload_n 1, 1) := by decide +kernel
theorem dX7_page_95 : decode cX7_page 95 = .ok (.iconst 0, 1) := by decide +kernel
theorem dX7_page_96 : decode cX7_page 96 = .ok (.invokevirtual 181, 3) := by decide +kernel
theorem dX7_page_99 : decode cX7_page 99 = .ok (.ireturn, 1) := by decide +kernel
theorem dX7_page_100 : decode cX7_page 100 = .ok (.aload_n 0, 1) := by decide +kernel
theorem dX7_page_101 : decode cX7_page 101 = .ok (.iload_n 1, 1) := by decide +kernel
theorem dX7_page_102 : decode cX7_page 102 = .ok (.invokevirtual 185, 3) := by decide +kernel
theorem dX7_page_105 : decode cX7_page 105 = .ok (.ireturn, 1) := by decide +kernel
theorem dX7_page_106 : decode cX7_page 106 = .ok (.bipush (-2), 2) := by decide +kernel
theorem dX7_page_108 : decode cX7_page 108 = .ok (.ireturn, 1) := by decide +kernel
theorem dX7_settings_0 : decode cX7_settings 0 = .ok (.iconst 0, 1) := by decide +kernel
theorem dX7_settings_1 : decode cX7_settings 1 = .ok (.istore_n 2, 1) := by decide +kernel
theorem dX7_settings_2 : decode cX7_settings 2 = .ok (.iconst 0, 1) := by decide +kernel
theorem dX7_settings_3 : decode cX7_settings 3 = .ok (.istore_n 3, 1) := by decide +kernel
theorem dX7_settings_4 : decode cX7_settings 4 = .ok (.iload_n 3, 1) := by decide +kernel
theorem dX7_settings_5 : decode cX7_settings 5 = .ok (.bipush 10, 2) := by decide +kernel
theorem dX7_settings_7 : decode cX7_settings 7 = .ok (.if_icmp .ge 69, 3) := by decide +kernel
theorem dX7_settings_10 : decode cX7_settings 10 = .ok (.aload_n 0, 1) := by decide +kernel
theorem dX7_settings_11 : decode cX7_settings 11 = .ok (.iload_n 3, 1) := by decide +kernel
theorem dX7_settings_12 : decode cX7_settings 12 = .ok (.invokevirtual 143, 3) := by decide +kernel
theorem dX7_settings_15 : decode cX7_settings 15 = .ok (.ifCond .eq 39, 3) := by decide +kernel
theorem dX7_settings_18 : decode cX7_settings 18 = .ok (.iload_n 1, 1) := by decide +kernel
theorem dX7_settings_19 : decode cX7_settings 19 = .ok (.ifCond .eq 31, 3) := by decide +kernel
theorem dX7_settings_22 : decode cX7_settings 22 = .ok (.aload_n 0, 1) := by decide +kernel
theorem dX7_settings_23 : decode cX7_settings 23 = .ok (.getfield 7, 3) := by decide +kernel
theorem dX7_settings_26 : decode cX7_settings 26 = .ok (.bipush 11, 2) := by decide +kernel
theorem dX7_settings_28 : decode cX7_settings 28 = .ok (.iload_n 3, 1) := by decide +kernel
theorem dX7_settings_29 : decode cX7_settings 29 = .ok (.iadd, 1) := by decide +kernel
theorem dX7_settings_30 : decode cX7_settings 30 = .ok (.iaload, 1) := by decide +kernel
theorem dX7_settings_31 : decode cX7_settings 31 = .ok (.aload_n 0, 1) := by decide +kernel
theorem dX7_settings_32 : decode cX7_settings 32 = .ok (.getfield 32, 3) := by decide +kernel
theorem dX7_settings_35 : decode cX7_settings 35 = .ok (.bipush 10, 2) := by decide +kernel
theorem dX7_settings_37 : decode cX7_settings 37 = .ok (.aload_n 0, 1) := by decide +kernel
theorem dX7_settings_38 : decode cX7_settings 38 = .ok (.getfield 7, 3) := by decide +kernel
theorem dX7_settings_41 : decode cX7_settings 41 = .ok (.iconst 3, 1) := by decide +kernel
theorem dX7_settings_42 : decode cX7_settings 42 = .ok (.iaload, 1) := by decide +kernel
theorem dX7_settings_43 : decode cX7_settings 43 = .ok (.imul, 1) := by decide +kernel
theorem dX7_settings_44 : decode cX7_settings 44 = .ok (.iload_n 3, 1) := by decide +kernel
theorem dX7_settings_45 : decode cX7_settings 45 = .ok (.iadd, 1) := by decide +kernel
theorem dX7_settings_46 : decode cX7_settings 46 = .ok (.iaload, 1) := by decide +kernel
theorem dX7_settings_47 : decode cX7_settings 47 = .ok (.if_icmp .eq 7, 3) := by decide +kernel
theorem dX7_settings_50 : decode cX7_settings 50 = .ok (.iconst 1, 1) := by decide +kernel
theorem dX7_settings_51 : decode cX7_settings 51 = .ok (.goto 4, 3) := by decide +kernel
theorem dX7_settings_54 : decode cX7_settings 54 = .ok (.iconst 0, 1) := by decide +kernel
theorem dX7_settings_55 : decode cX7_settings 55 = .ok (.istore 4, 2) := by decide +kernel
theorem dX7_settings_57 : decode cX7_settings 57 = .ok (.iload_n 2, 1) := by decide +kernel
theorem dX7_settings_58 : decode cX7_settings 58 = .ok (.iload 4, 2) := by decide +kernel
theorem dX7_settings_60 : decode cX7_settings 60 = .ok (.ifCond .eq 7, 3) := by decide +kernel
theorem dX7_settings_63 : decode cX7_settings 63 = .ok (.iconst 1, 1) := by decide +kernel
theorem dX7_settings_64 : decode cX7_settings 64 = .ok (.goto 4, 3) := by decide +kernel
theorem dX7_settings_67 : decode cX7_settings 67 = .ok (.iconst 0, 1) := by decide +kernel
theorem dX7_settings_68 : decode cX7_settings 68 = .ok (.iadd, 1) := by decide +kernel
theorem dX7_settings_69 : decode cX7_settings 69 = .ok (.istore_n 2, 1) := by decide +kernel
theorem dX7_settings_70 : decode cX7_settings 70 = .ok (.iinc 3 1, 3) := by decide +kernel
theorem dX7_settings_73 : decode cX7_settings 73 = .ok (.goto (-69), 3) := by decide +kernel
theorem dX7_settings_76 : decode cX7_settings 76 = .ok (.iload_n 2, 1) := by decide +kernel
theorem dX7_settings_77 : decode cX7_settings 77 = .ok (.ireturn, 1) := by decide +kernel
theorem dX7_state_0 : decode cX7_state 0 = .ok (.iload_n 1, 1) := by decide +kernel
theorem dX7_state_1 : decode cX7_state 1 = .ok (.tableswitch 189 0 12 #[67, 74, 81, 88, 95, 120, 128, 134, 140, 145, 152, 168, 184], 67) := by decide +kernel
theorem dX7_state_68 : decode cX7_state 68 = .ok (.aload_n 0, 1) := by decide +kernel
theorem dX7_state_69 : decode cX7_state 69 = .ok (.getfield 7, 3) := by decide +kernel
theorem dX7_state_72 : decode cX7_state 72 = .ok (.iconst 0, 1) := by decide +kernel
theorem dX7_state_73 : decode cX7_state 73 = .ok (.iaload, 1) := by decide +kernel
theorem dX7_state_74 : decode cX7_state 74 = .ok (.ireturn, 1) := by decide +kernel
theorem dX7_state_75 : decode cX7_state 75 = .ok (.aload_n 0, 1) := by decide +kernel
theorem dX7_state_76 : decode cX7_state 76 = .ok (.getfield 7, 3) := by decide +kernel
theorem dX7_state_79 : decode cX7_state 79 = .ok (.iconst 2, 1) := by decide +kernel
theorem dX7_state_80 : decode cX7_state 80 = .ok (.iaload, 1) := by decide +kernel
theorem dX7_state_81 : decode cX7_state 81 = .ok (.ireturn, 1) := by decide +kernel
theorem dX7_state_82 : decode cX7_state 82 = .ok (.aload_n 0, 1) := by decide +kernel
theorem dX7_state_83 : decode cX7_state 83 = .ok (.getfield 7, 3) := by decide +kernel
theorem dX7_state_86 : decode cX7_state 86 = .ok (.iconst 3, 1) := by decide +kernel
theorem dX7_state_87 : decode cX7_state 87 = .ok (.iaload, 1) := by decide +kernel
theorem dX7_state_88 : decode cX7_state 88 = .ok (.ireturn, 1) := by decide +kernel
theorem dX7_state_89 : decode cX7_state 89 = .ok (.aload_n 0, 1) := by decide +kernel
theorem dX7_state_90 : decode cX7_state 90 = .ok (.getfield 7, 3) := by decide +kernel
theorem dX7_state_93 : decode cX7_state 93 = .ok (.iconst 4, 1) := by decide +kernel
theorem dX7_state_94 : decode cX7_state 94 = .ok (.iaload, 1) := by decide +kernel
theorem dX7_state_95 : decode cX7_state 95 = .ok (.ireturn, 1) := by decide +kernel
theorem dX7_state_96 : decode cX7_state 96 = .ok (.aload_n 0, 1) := by decide +kernel
theorem dX7_state_97 : decode cX7_state 97 = .ok (.getfield 7, 3) := by decide +kernel
theorem dX7_state_100 : decode cX7_state 100 = .ok (.iconst 2, 1) := by decide +kernel
theorem dX7_state_101 : decode cX7_state 101 = .ok (.iaload, 1) := by decide +kernel
theorem dX7_state_102 : decode cX7_state 102 = .ok (.ifCond .ge 7, 3) := by decide +kernel
theorem dX7_state_105 : decode cX7_state 105 = .ok (.iconst 0, 1) := by decide +kernel
theorem dX7_state_106 : decode cX7_state 106 = .ok (.goto 14, 3) := by decide +kernel
theorem dX7_state_109 : decode cX7_state 109 = .ok (.bipush 48, 2) := by decide +kernel
theorem dX7_state_111 : decode cX7_state 111 = .ok (.aload_n 0, 1) := by decide +kernel
theorem dX7_state_112 : decode cX7_state 112 = .ok (.getfield 7, 3) := by decide +kernel
theorem dX7_state_115 : decode cX7_state 115 = .ok (.iconst 5, 1) := by decide +kernel
theorem dX7_state_116 : decode cX7_state 116 = .ok (.iaload, 1) := by decide +kernel
theorem dX7_state_117 : decode cX7_state 117 = .ok (.isub, 1) := by decide +kernel
theorem dX7_state_118 : decode cX7_state 118 = .ok (.iconst 3, 1) := by decide +kernel
theorem dX7_state_119 : decode cX7_state 119 = .ok (.idiv, 1) := by decide +kernel
theorem dX7_state_120 : decode cX7_state 120 = .ok (.ireturn, 1) := by decide +kernel
theorem dX7_state_121 : decode cX7_state 121 = .ok (.aload_n 0, 1) := by decide +kernel
theorem dX7_state_122 : decode cX7_state 122 = .ok (.getfield 7, 3) := by decide +kernel
theorem dX7_state_125 : decode cX7_state 125 = .ok (.bipush 6, 2) := by decide +kernel
theorem dX7_state_127 : decode cX7_state 127 = .ok (.iaload, 1) := by decide +kernel
theorem dX7_state_128 : decode cX7_state 128 = .ok (.ireturn, 1) := by decide +kernel
theorem dX7_state_129 : decode cX7_state 129 = .ok (.aload_n 0, 1) := by decide +kernel
theorem dX7_state_130 : decode cX7_state 130 = .ok (.iconst 0, 1) := by decide +kernel
theorem dX7_state_131 : decode cX7_state 131 = .ok (.invokevirtual 188, 3) := by decide +kernel
theorem dX7_state_134 : decode cX7_state 134 = .ok (.ireturn, 1) := by decide +kernel
theorem dX7_state_135 : decode cX7_state 135 = .ok (.aload_n 0, 1) := by decide +kernel
theorem dX7_state_136 : decode cX7_state 136 = .ok (.iconst 1, 1) := by decide +kernel
theorem dX7_state_137 : decode cX7_state 137 = .ok (.invokevirtual 188, 3) := by decide +kernel
theorem dX7_state_140 : decode cX7_state 140 = .ok (.ireturn, 1) := by decide +kernel
theorem dX7_state_141 : decode cX7_state 141 = .ok (.aload_n 0, 1) := by decide +kernel
theorem dX7_state_142 : decode cX7_state 142 = .ok (.getfield 59, 3) := by decide +kernel
theorem dX7_state_145 : decode cX7_state 145 = .ok (.ireturn, 1) := by decide +kernel
theorem dX7_state_146 : decode cX7_state 146 = .ok (.aload_n 0, 1) := by decide +kernel
theorem dX7_state_147 : decode cX7_state 147 = .ok (.getfield 7, 3) := by decide +kernel
theorem dX7_state_150 : decode cX7_state 150 = .ok (.iconst 1, 1) := by decide +kernel
theorem dX7_state_151 : decode cX7_state 151 = .ok (.iaload, 1) := by decide +kernel
theorem dX7_state_152 : decode cX7_state 152 = .ok (.ireturn, 1) := by decide +kernel
theorem dX7_state_153 : decode cX7_state 153 = .ok (.aload_n 0, 1) := by decide +kernel
theorem dX7_state_154 : decode cX7_state 154 = .ok (.getfield 7, 3) := by decide +kernel
theorem dX7_state_157 : decode cX7_state 157 = .ok (.bipush 7, 2) := by decide +kernel
theorem dX7_state_159 : decode cX7_state 159 = .ok (.iaload, 1) := by decide +kernel
theorem dX7_state_160 : decode cX7_state 160 = .ok (.aload_n 0, 1) := by decide +kernel
theorem dX7_state_161 : decode cX7_state 161 = .ok (.getfield 7, 3) := by decide +kernel
theorem dX7_state_164 : decode cX7_state 164 = .ok (.bipush 8, 2) := by decide +kernel
theorem dX7_state_166 : decode cX7_state 166 = .ok (.iaload, 1) := by decide +kernel
theorem dX7_state_167 : decode cX7_state 167 = .ok (.iadd, 1) := by decide +kernel
theorem dX7_state_168 : decode cX7_state 168 = .ok (.ireturn, 1) := by decide +kernel
theorem dX7_state_169 : decode cX7_state 169 = .ok (.aload_n 0, 1) := by decide +kernel
theorem dX7_state_170 : decode cX7_state 170 = .ok (.getfield 7, 3) := by decide +kernel
theorem dX7_state_173 : decode cX7_state 173 = .ok (.bipush 9, 2) := by decide +kernel
theorem dX7_state_175 : decode cX7_state 175 = .ok (.iaload, 1) := by decide +kernel
theorem dX7_state_176 : decode cX7_state 176 = .ok (.aload_n 0, 1) := by decide +kernel
theorem dX7_state_177 : decode cX7_state 177 = .ok (.getfield 7, 3) := by decide +kernel
theorem dX7_state_180 : decode cX7_state 180 = .ok (.bipush 10, 2) := by decide +kernel
theorem dX7_state_182 : decode cX7_state 182 = .ok (.iaload, 1) := by decide +kernel
theorem dX7_state_183 : decode cX7_state 183 = .ok (.iadd, 1) := by decide +kernel
theorem dX7_state_184 : decode cX7_state 184 = .ok (.ireturn, 1) := by decide +kernel
theorem dX7_state_185 : decode cX7_state 185 = .ok (.aload_n 0, 1) := by decide +kernel
theorem dX7_state_186 : decode cX7_state 186 = .ok (.getfield 94, 3) := by decide +kernel
theorem dX7_state_189 : decode cX7_state 189 = .ok (.ireturn, 1) := by decide +kernel
theorem dX7_state_190 : decode cX7_state 190 = .ok (.bipush (-2), 2) := by decide +kernel
theorem dX7_state_192 : decode cX7_state 192 = .ok (.ireturn, 1) := by decide +kernel
theorem dX7_record_0 : decode cX7_record 0 = .ok (.aload_n 0, 1) := by decide +kernel
theorem dX7_record_1 : decode cX7_record 1 = .ok (.getfield 7, 3) := by decide +kernel
theorem dX7_record_4 : decode cX7_record 4 = .ok (.iconst 0, 1) := by decide +kernel
theorem dX7_record_5 : decode cX7_record 5 = .ok (.iaload, 1) := by decide +kernel
theorem dX7_record_6 : decode cX7_record 6 = .ok (.ifCond .ne 6, 3) := by decide +kernel
theorem dX7_record_9 : decode cX7_record 9 = .ok (.bipush (-5), 2) := by decide +kernel
theorem dX7_record_11 : decode cX7_record 11 = .ok (.ireturn, 1) := by decide +kernel
theorem dX7_record_12 : decode cX7_record 12 = .ok (.aload_n 0, 1) := by decide +kernel
theorem dX7_record_13 : decode cX7_record 13 = .ok (.iload_n 1, 1) := by decide +kernel
theorem dX7_record_14 : decode cX7_record 14 = .ok (.invokevirtual 143, 3) := by decide +kernel
theorem dX7_record_17 : decode cX7_record 17 = .ok (.ifCond .eq 15, 3) := by decide +kernel
theorem dX7_record_20 : decode cX7_record 20 = .ok (.aload_n 0, 1) := by decide +kernel
theorem dX7_record_21 : decode cX7_record 21 = .ok (.getfield 7, 3) := by decide +kernel
theorem dX7_record_24 : decode cX7_record 24 = .ok (.bipush 117, 2) := by decide +kernel
theorem dX7_record_26 : decode cX7_record 26 = .ok (.iload_n 1, 1) := by decide +kernel
theorem dX7_record_27 : decode cX7_record 27 = .ok (.iadd, 1) := by decide +kernel
theorem dX7_record_28 : decode cX7_record 28 = .ok (.iaload, 1) := by decide +kernel
theorem dX7_record_29 : decode cX7_record 29 = .ok (.goto 4, 3) := by decide +kernel
theorem dX7_record_32 : decode cX7_record 32 = .ok (.iconst (-1), 1) := by decide +kernel
theorem dX7_record_33 : decode cX7_record 33 = .ok (.ireturn, 1) := by decide +kernel
theorem dX7_ifMigrated_0 : decode cX7_ifMigrated 0 = .ok (.aload_n 0, 1) := by decide +kernel
theorem dX7_ifMigrated_1 : decode cX7_ifMigrated 1 = .ok (.invokevirtual 168, 3) := by decide +kernel
theorem dX7_ifMigrated_4 : decode cX7_ifMigrated 4 = .ok (.ifCond .eq 6, 3) := by decide +kernel
theorem dX7_ifMigrated_7 : decode cX7_ifMigrated 7 = .ok (.bipush (-5), 2) := by decide +kernel
theorem dX7_ifMigrated_9 : decode cX7_ifMigrated 9 = .ok (.ireturn, 1) := by decide +kernel
theorem dX7_ifMigrated_10 : decode cX7_ifMigrated 10 = .ok (.aload_n 0, 1) := by decide +kernel
theorem dX7_ifMigrated_11 : decode cX7_ifMigrated 11 = .ok (.iload_n 1, 1) := by decide +kernel
theorem dX7_ifMigrated_12 : decode cX7_ifMigrated 12 = .ok (.invokevirtual 97, 3) := by decide +kernel
theorem dX7_ifMigrated_15 : decode cX7_ifMigrated 15 = .ok (.ifCond .eq 12, 3) := by decide +kernel
theorem dX7_ifMigrated_18 : decode cX7_ifMigrated 18 = .ok (.aload_n 0, 1) := by decide +kernel
theorem dX7_ifMigrated_19 : decode cX7_ifMigrated 19 = .ok (.iload_n 1, 1) := by decide +kernel
theorem dX7_ifMigrated_20 : decode cX7_ifMigrated 20 = .ok (.iload_n 2, 1) := by decide +kernel
theorem dX7_ifMigrated_21 : decode cX7_ifMigrated 21 = .ok (.invokevirtual 71, 3) := by decide +kernel
theorem dX7_ifMigrated_24 : decode cX7_ifMigrated 24 = .ok (.ifCond .ne 5, 3) := by decide +kernel
theorem dX7_ifMigrated_27 : decode cX7_ifMigrated 27 = .ok (.iconst (-1), 1) := by decide +kernel
theorem dX7_ifMigrated_28 : decode cX7_ifMigrated 28 = .ok (.ireturn, 1) := by decide +kernel
theorem dX7_ifMigrated_29 : decode cX7_ifMigrated 29 = .ok (.iload_n 1, 1) := by decide +kernel
theorem dX7_ifMigrated_30 : decode cX7_ifMigrated 30 = .ok (.aload_n 0, 1) := by decide +kernel
theorem dX7_ifMigrated_31 : decode cX7_ifMigrated 31 = .ok (.getfield 7, 3) := by decide +kernel
theorem dX7_ifMigrated_34 : decode cX7_ifMigrated 34 = .ok (.iconst 3, 1) := by decide +kernel
theorem dX7_ifMigrated_35 : decode cX7_ifMigrated 35 = .ok (.iaload, 1) := by decide +kernel
theorem dX7_ifMigrated_36 : decode cX7_ifMigrated 36 = .ok (.if_icmp .gt 6, 3) := by decide +kernel
theorem dX7_ifMigrated_39 : decode cX7_ifMigrated 39 = .ok (.bipush (-2), 2) := by decide +kernel
theorem dX7_ifMigrated_41 : decode cX7_ifMigrated 41 = .ok (.ireturn, 1) := by decide +kernel
theorem dX7_ifMigrated_42 : decode cX7_ifMigrated 42 = .ok (.aload_n 0, 1) := by decide +kernel
theorem dX7_ifMigrated_43 : decode cX7_ifMigrated 43 = .ok (.iload_n 1, 1) := by decide +kernel
theorem dX7_ifMigrated_44 : decode cX7_ifMigrated 44 = .ok (.invokevirtual 175, 3) := by decide +kernel
theorem dX7_ifMigrated_47 : decode cX7_ifMigrated 47 = .ok (.aload_n 0, 1) := by decide +kernel
theorem dX7_ifMigrated_48 : decode cX7_ifMigrated 48 = .ok (.getfield 53, 3) := by decide +kernel
theorem dX7_ifMigrated_51 : decode cX7_ifMigrated 51 = .ok (.iload_n 2, 1) := by decide +kernel
theorem dX7_ifMigrated_52 : decode cX7_ifMigrated 52 = .ok (.iaload, 1) := by decide +kernel
theorem dX7_ifMigrated_53 : decode cX7_ifMigrated 53 = .ok (.ireturn, 1) := by decide +kernel
theorem dX7_ifFailed_0 : decode cX7_ifFailed 0 = .ok (.aload_n 0, 1) := by decide +kernel
theorem dX7_ifFailed_1 : decode cX7_ifFailed 1 = .ok (.getfield 7, 3) := by decide +kernel
theorem dX7_ifFailed_4 : decode cX7_ifFailed 4 = .ok (.iconst 0, 1) := by decide +kernel
theorem dX7_ifFailed_5 : decode cX7_ifFailed 5 = .ok (.iaload, 1) := by decide +kernel
theorem dX7_ifFailed_6 : decode cX7_ifFailed 6 = .ok (.ifCond .ne 6, 3) := by decide +kernel
theorem dX7_ifFailed_9 : decode cX7_ifFailed 9 = .ok (.bipush (-5), 2) := by decide +kernel
theorem dX7_ifFailed_11 : decode cX7_ifFailed 11 = .ok (.ireturn, 1) := by decide +kernel
theorem dX7_ifFailed_12 : decode cX7_ifFailed 12 = .ok (.aload_n 0, 1) := by decide +kernel
theorem dX7_ifFailed_13 : decode cX7_ifFailed 13 = .ok (.iload_n 1, 1) := by decide +kernel
theorem dX7_ifFailed_14 : decode cX7_ifFailed 14 = .ok (.invokevirtual 143, 3) := by decide +kernel
theorem dX7_ifFailed_17 : decode cX7_ifFailed 17 = .ok (.ifCond .eq 12, 3) := by decide +kernel
theorem dX7_ifFailed_20 : decode cX7_ifFailed 20 = .ok (.aload_n 0, 1) := by decide +kernel
theorem dX7_ifFailed_21 : decode cX7_ifFailed 21 = .ok (.iload 4, 2) := by decide +kernel
theorem dX7_ifFailed_23 : decode cX7_ifFailed 23 = .ok (.invokevirtual 143, 3) := by decide +kernel
theorem dX7_ifFailed_26 : decode cX7_ifFailed 26 = .ok (.ifCond .ne 5, 3) := by decide +kernel
theorem dX7_ifFailed_29 : decode cX7_ifFailed 29 = .ok (.iconst (-1), 1) := by decide +kernel
theorem dX7_ifFailed_30 : decode cX7_ifFailed 30 = .ok (.ireturn, 1) := by decide +kernel
theorem dX7_ifFailed_31 : decode cX7_ifFailed 31 = .ok (.aload_n 0, 1) := by decide +kernel
theorem dX7_ifFailed_32 : decode cX7_ifFailed 32 = .ok (.iload_n 1, 1) := by decide +kernel
theorem dX7_ifFailed_33 : decode cX7_ifFailed 33 = .ok (.iload_n 2, 1) := by decide +kernel
theorem dX7_ifFailed_34 : decode cX7_ifFailed 34 = .ok (.invokevirtual 162, 3) := by decide +kernel
theorem dX7_ifFailed_37 : decode cX7_ifFailed 37 = .ok (.ifCond .eq 14, 3) := by decide +kernel
theorem dX7_ifFailed_40 : decode cX7_ifFailed 40 = .ok (.iload_n 3, 1) := by decide +kernel
theorem dX7_ifFailed_41 : decode cX7_ifFailed 41 = .ok (.iconst 0, 1) := by decide +kernel
theorem dX7_ifFailed_42 : decode cX7_ifFailed 42 = .ok (.sipush 200, 3) := by decide +kernel
theorem dX7_ifFailed_45 : decode cX7_ifFailed 45 = .ok (.invokestatic 63, 3) := by decide +kernel
theorem dX7_ifFailed_48 : decode cX7_ifFailed 48 = .ok (.ifCond .ne 6, 3) := by decide +kernel
theorem dX7_ifFailed_51 : decode cX7_ifFailed 51 = .ok (.bipush (-2), 2) := by decide +kernel
theorem dX7_ifFailed_53 : decode cX7_ifFailed 53 = .ok (.ireturn, 1) := by decide +kernel
theorem dX7_ifFailed_54 : decode cX7_ifFailed 54 = .ok (.iconst 0, 1) := by decide +kernel
theorem dX7_ifFailed_55 : decode cX7_ifFailed 55 = .ok (.istore 5, 2) := by decide +kernel
theorem dX7_ifFailed_57 : decode cX7_ifFailed 57 = .ok (.iload 5, 2) := by decide +kernel
theorem dX7_ifFailed_59 : decode cX7_ifFailed 59 = .ok (.bipush 127, 2) := by decide +kernel
theorem dX7_ifFailed_61 : decode cX7_ifFailed 61 = .ok (.if_icmp .ge 23, 3) := by decide +kernel
theorem dX7_ifFailed_64 : decode cX7_ifFailed 64 = .ok (.aload_n 0, 1) := by decide +kernel
theorem dX7_ifFailed_65 : decode cX7_ifFailed 65 = .ok (.getfield 13, 3) := by decide +kernel
theorem dX7_ifFailed_68 : decode cX7_ifFailed 68 = .ok (.iload 5, 2) := by decide +kernel
theorem dX7_ifFailed_70 : decode cX7_ifFailed 70 = .ok (.aload_n 0, 1) := by decide +kernel
theorem dX7_ifFailed_71 : decode cX7_ifFailed 71 = .ok (.getfield 7, 3) := by decide +kernel
theorem dX7_ifFailed_74 : decode cX7_ifFailed 74 = .ok (.iload 5, 2) := by decide +kernel
theorem dX7_ifFailed_76 : decode cX7_ifFailed 76 = .ok (.iaload, 1) := by decide +kernel
theorem dX7_ifFailed_77 : decode cX7_ifFailed 77 = .ok (.iastore, 1) := by decide +kernel
theorem dX7_ifFailed_78 : decode cX7_ifFailed 78 = .ok (.iinc 5 1, 3) := by decide +kernel
theorem dX7_ifFailed_81 : decode cX7_ifFailed 81 = .ok (.goto (-24), 3) := by decide +kernel
theorem dX7_ifFailed_84 : decode cX7_ifFailed 84 = .ok (.aload_n 0, 1) := by decide +kernel
theorem dX7_ifFailed_85 : decode cX7_ifFailed 85 = .ok (.getfield 7, 3) := by decide +kernel
theorem dX7_ifFailed_88 : decode cX7_ifFailed 88 = .ok (.iconst 1, 1) := by decide +kernel
theorem dX7_ifFailed_89 : decode cX7_ifFailed 89 = .ok (.iload_n 3, 1) := by decide +kernel
theorem dX7_ifFailed_90 : decode cX7_ifFailed 90 = .ok (.iastore, 1) := by decide +kernel
theorem dX7_ifFailed_91 : decode cX7_ifFailed 91 = .ok (.aload_n 0, 1) := by decide +kernel
theorem dX7_ifFailed_92 : decode cX7_ifFailed 92 = .ok (.iload_n 1, 1) := by decide +kernel
theorem dX7_ifFailed_93 : decode cX7_ifFailed 93 = .ok (.iload_n 2, 1) := by decide +kernel
theorem dX7_ifFailed_94 : decode cX7_ifFailed 94 = .ok (.invokevirtual 165, 3) := by decide +kernel
theorem dX7_ifFailed_97 : decode cX7_ifFailed 97 = .ok (.aload_n 0, 1) := by decide +kernel
theorem dX7_ifFailed_98 : decode cX7_ifFailed 98 = .ok (.invokevirtual 192, 3) := by decide +kernel
theorem dX7_ifFailed_101 : decode cX7_ifFailed 101 = .ok (.istore 5, 2) := by decide +kernel
theorem dX7_ifFailed_103 : decode cX7_ifFailed 103 = .ok (.iload 5, 2) := by decide +kernel
theorem dX7_ifFailed_105 : decode cX7_ifFailed 105 = .ok (.ifCond .lt 12, 3) := by decide +kernel
theorem dX7_ifFailed_108 : decode cX7_ifFailed 108 = .ok (.aload_n 0, 1) := by decide +kernel
theorem dX7_ifFailed_109 : decode cX7_ifFailed 109 = .ok (.iload 4, 2) := by decide +kernel
theorem dX7_ifFailed_111 : decode cX7_ifFailed 111 = .ok (.invokevirtual 143, 3) := by decide +kernel
theorem dX7_ifFailed_114 : decode cX7_ifFailed 114 = .ok (.ifCond .ne 8, 3) := by decide +kernel
theorem dX7_ifFailed_117 : decode cX7_ifFailed 117 = .ok (.bipush (-6), 2) := by decide +kernel
theorem dX7_ifFailed_119 : decode cX7_ifFailed 119 = .ok (.goto 13, 3) := by decide +kernel
theorem dX7_ifFailed_122 : decode cX7_ifFailed 122 = .ok (.aload_n 0, 1) := by decide +kernel
theorem dX7_ifFailed_123 : decode cX7_ifFailed 123 = .ok (.getfield 7, 3) := by decide +kernel
theorem dX7_ifFailed_126 : decode cX7_ifFailed 126 = .ok (.bipush 11, 2) := by decide +kernel
theorem dX7_ifFailed_128 : decode cX7_ifFailed 128 = .ok (.iload 4, 2) := by decide +kernel
theorem dX7_ifFailed_130 : decode cX7_ifFailed 130 = .ok (.iadd, 1) := by decide +kernel
theorem dX7_ifFailed_131 : decode cX7_ifFailed 131 = .ok (.iaload, 1) := by decide +kernel
theorem dX7_ifFailed_132 : decode cX7_ifFailed 132 = .ok (.istore 6, 2) := by decide +kernel
theorem dX7_ifFailed_134 : decode cX7_ifFailed 134 = .ok (.iconst 0, 1) := by decide +kernel
theorem dX7_ifFailed_135 : decode cX7_ifFailed 135 = .ok (.istore 7, 2) := by decide +kernel
theorem dX7_ifFailed_137 : decode cX7_ifFailed 137 = .ok (.iload 7, 2) := by decide +kernel
theorem dX7_ifFailed_139 : decode cX7_ifFailed 139 = .ok (.bipush 127, 2) := by decide +kernel
theorem dX7_ifFailed_141 : decode cX7_ifFailed 141 = .ok (.if_icmp .ge 23, 3) := by decide +kernel
theorem dX7_ifFailed_144 : decode cX7_ifFailed 144 = .ok (.aload_n 0, 1) := by decide +kernel
theorem dX7_ifFailed_145 : decode cX7_ifFailed 145 = .ok (.getfield 7, 3) := by decide +kernel
theorem dX7_ifFailed_148 : decode cX7_ifFailed 148 = .ok (.iload 7, 2) := by decide +kernel
theorem dX7_ifFailed_150 : decode cX7_ifFailed 150 = .ok (.aload_n 0, 1) := by decide +kernel
theorem dX7_ifFailed_151 : decode cX7_ifFailed 151 = .ok (.getfield 13, 3) := by decide +kernel
theorem dX7_ifFailed_154 : decode cX7_ifFailed 154 = .ok (.iload 7, 2) := by decide +kernel
theorem dX7_ifFailed_156 : decode cX7_ifFailed 156 = .ok (.iaload, 1) := by decide +kernel
theorem dX7_ifFailed_157 : decode cX7_ifFailed 157 = .ok (.iastore, 1) := by decide +kernel
theorem dX7_ifFailed_158 : decode cX7_ifFailed 158 = .ok (.iinc 7 1, 3) := by decide +kernel
theorem dX7_ifFailed_161 : decode cX7_ifFailed 161 = .ok (.goto (-24), 3) := by decide +kernel
theorem dX7_ifFailed_164 : decode cX7_ifFailed 164 = .ok (.iload 6, 2) := by decide +kernel
theorem dX7_ifFailed_166 : decode cX7_ifFailed 166 = .ok (.ireturn, 1) := by decide +kernel
theorem dX7_put_0 : decode cX7_put 0 = .ok (.iconst 0, 1) := by decide +kernel
theorem dX7_put_1 : decode cX7_put 1 = .ok (.istore_n 3, 1) := by decide +kernel
theorem dX7_put_2 : decode cX7_put 2 = .ok (.lload_n 1, 1) := by decide +kernel
theorem dX7_put_3 : decode cX7_put 3 = .ok (.lstore 4, 2) := by decide +kernel
theorem dX7_put_5 : decode cX7_put 5 = .ok (.iload_n 3, 1) := by decide +kernel
theorem dX7_put_6 : decode cX7_put 6 = .ok (.bipush 8, 2) := by decide +kernel
theorem dX7_put_8 : decode cX7_put 8 = .ok (.if_icmp .ge 47, 3) := by decide +kernel
theorem dX7_put_11 : decode cX7_put 11 = .ok (.lload 4, 2) := by decide +kernel
theorem dX7_put_13 : decode cX7_put 13 = .ok (.ldc2_w 195, 3) := by decide +kernel
theorem dX7_put_16 : decode cX7_put 16 = .ok (.land, 1) := by decide +kernel
theorem dX7_put_17 : decode cX7_put 17 = .ok (.lconst 0, 1) := by decide +kernel
theorem dX7_put_18 : decode cX7_put 18 = .ok (.lcmp, 1) := by decide +kernel
theorem dX7_put_19 : decode cX7_put 19 = .ok (.ifCond .eq 36, 3) := by decide +kernel
theorem dX7_put_22 : decode cX7_put 22 = .ok (.lload 4, 2) := by decide +kernel
theorem dX7_put_24 : decode cX7_put 24 = .ok (.ldc2_w 195, 3) := by decide +kernel
theorem dX7_put_27 : decode cX7_put 27 = .ok (.land, 1) := by decide +kernel
theorem dX7_put_28 : decode cX7_put 28 = .ok (.l2i, 1) := by decide +kernel
theorem dX7_put_29 : decode cX7_put 29 = .ok (.bipush 33, 2) := by decide +kernel
theorem dX7_put_31 : decode cX7_put 31 = .ok (.bipush 126, 2) := by decide +kernel
theorem dX7_put_33 : decode cX7_put 33 = .ok (.invokestatic 63, 3) := by decide +kernel
theorem dX7_put_36 : decode cX7_put 36 = .ok (.ifCond .ne 6, 3) := by decide +kernel
theorem dX7_put_39 : decode cX7_put 39 = .ok (.bipush (-2), 2) := by decide +kernel
theorem dX7_put_41 : decode cX7_put 41 = .ok (.ireturn, 1) := by decide +kernel
theorem dX7_put_42 : decode cX7_put 42 = .ok (.iinc 3 1, 3) := by decide +kernel
theorem dX7_put_45 : decode cX7_put 45 = .ok (.lload 4, 2) := by decide +kernel
theorem dX7_put_47 : decode cX7_put 47 = .ok (.bipush 8, 2) := by decide +kernel
theorem dX7_put_49 : decode cX7_put 49 = .ok (.lushr, 1) := by decide +kernel
theorem dX7_put_50 : decode cX7_put 50 = .ok (.lstore 4, 2) := by decide +kernel
theorem dX7_put_52 : decode cX7_put 52 = .ok (.goto (-47), 3) := by decide +kernel
theorem dX7_put_55 : decode cX7_put 55 = .ok (.iload_n 3, 1) := by decide +kernel
theorem dX7_put_56 : decode cX7_put 56 = .ok (.ifCond .eq 10, 3) := by decide +kernel
theorem dX7_put_59 : decode cX7_put 59 = .ok (.lload 4, 2) := by decide +kernel
theorem dX7_put_61 : decode cX7_put 61 = .ok (.lconst 0, 1) := by decide +kernel
theorem dX7_put_62 : decode cX7_put 62 = .ok (.lcmp, 1) := by decide +kernel
theorem dX7_put_63 : decode cX7_put 63 = .ok (.ifCond .eq 6, 3) := by decide +kernel
theorem dX7_put_66 : decode cX7_put 66 = .ok (.bipush (-2), 2) := by decide +kernel
theorem dX7_put_68 : decode cX7_put 68 = .ok (.ireturn, 1) := by decide +kernel
theorem dX7_put_69 : decode cX7_put 69 = .ok (.aload_n 0, 1) := by decide +kernel
theorem dX7_put_70 : decode cX7_put 70 = .ok (.getfield 94, 3) := by decide +kernel
theorem dX7_put_73 : decode cX7_put 73 = .ok (.iload_n 3, 1) := by decide +kernel
theorem dX7_put_74 : decode cX7_put 74 = .ok (.iadd, 1) := by decide +kernel
theorem dX7_put_75 : decode cX7_put 75 = .ok (.bipush 80, 2) := by decide +kernel
theorem dX7_put_77 : decode cX7_put 77 = .ok (.if_icmp .le 6, 3) := by decide +kernel
theorem dX7_put_80 : decode cX7_put 80 = .ok (.bipush (-4), 2) := by decide +kernel
theorem dX7_put_82 : decode cX7_put 82 = .ok (.ireturn, 1) := by decide +kernel
theorem dX7_put_83 : decode cX7_put 83 = .ok (.iconst 0, 1) := by decide +kernel
theorem dX7_put_84 : decode cX7_put 84 = .ok (.istore 6, 2) := by decide +kernel
theorem dX7_put_86 : decode cX7_put 86 = .ok (.iload 6, 2) := by decide +kernel
theorem dX7_put_88 : decode cX7_put 88 = .ok (.iload_n 3, 1) := by decide +kernel
theorem dX7_put_89 : decode cX7_put 89 = .ok (.if_icmp .ge 37, 3) := by decide +kernel
theorem dX7_put_92 : decode cX7_put 92 = .ok (.aload_n 0, 1) := by decide +kernel
theorem dX7_put_93 : decode cX7_put 93 = .ok (.getfield 23, 3) := by decide +kernel
theorem dX7_put_96 : decode cX7_put 96 = .ok (.aload_n 0, 1) := by decide +kernel
theorem dX7_put_97 : decode cX7_put 97 = .ok (.getfield 94, 3) := by decide +kernel
theorem dX7_put_100 : decode cX7_put 100 = .ok (.iload 6, 2) := by decide +kernel
theorem dX7_put_102 : decode cX7_put 102 = .ok (.iadd, 1) := by decide +kernel
theorem dX7_put_103 : decode cX7_put 103 = .ok (.lload_n 1, 1) := by decide +kernel
theorem dX7_put_104 : decode cX7_put 104 = .ok (.bipush 8, 2) := by decide +kernel
theorem dX7_put_106 : decode cX7_put 106 = .ok (.iload_n 3, 1) := by decide +kernel
theorem dX7_put_107 : decode cX7_put 107 = .ok (.iconst 1, 1) := by decide +kernel
theorem dX7_put_108 : decode cX7_put 108 = .ok (.isub, 1) := by decide +kernel
theorem dX7_put_109 : decode cX7_put 109 = .ok (.iload 6, 2) := by decide +kernel
theorem dX7_put_111 : decode cX7_put 111 = .ok (.isub, 1) := by decide +kernel
theorem dX7_put_112 : decode cX7_put 112 = .ok (.imul, 1) := by decide +kernel
theorem dX7_put_113 : decode cX7_put 113 = .ok (.lshr, 1) := by decide +kernel
theorem dX7_put_114 : decode cX7_put 114 = .ok (.ldc2_w 195, 3) := by decide +kernel
theorem dX7_put_117 : decode cX7_put 117 = .ok (.land, 1) := by decide +kernel
theorem dX7_put_118 : decode cX7_put 118 = .ok (.l2i, 1) := by decide +kernel
theorem dX7_put_119 : decode cX7_put 119 = .ok (.iastore, 1) := by decide +kernel
theorem dX7_put_120 : decode cX7_put 120 = .ok (.iinc 6 1, 3) := by decide +kernel
theorem dX7_put_123 : decode cX7_put 123 = .ok (.goto (-37), 3) := by decide +kernel
theorem dX7_put_126 : decode cX7_put 126 = .ok (.aload_n 0, 1) := by decide +kernel
theorem dX7_put_127 : decode cX7_put 127 = .ok (.dup, 1) := by decide +kernel
theorem dX7_put_128 : decode cX7_put 128 = .ok (.getfield 94, 3) := by decide +kernel
theorem dX7_put_131 : decode cX7_put 131 = .ok (.iload_n 3, 1) := by decide +kernel
theorem dX7_put_132 : decode cX7_put 132 = .ok (.iadd, 1) := by decide +kernel
theorem dX7_put_133 : decode cX7_put 133 = .ok (.putfield 94, 3) := by decide +kernel
theorem dX7_put_136 : decode cX7_put 136 = .ok (.aload_n 0, 1) := by decide +kernel
theorem dX7_put_137 : decode cX7_put 137 = .ok (.getfield 94, 3) := by decide +kernel
theorem dX7_put_140 : decode cX7_put 140 = .ok (.ireturn, 1) := by decide +kernel
theorem dX7_wipe_0 : decode cX7_wipe 0 = .ok (.aload_n 0, 1) := by decide +kernel
theorem dX7_wipe_1 : decode cX7_wipe 1 = .ok (.getfield 94, 3) := by decide +kernel
theorem dX7_wipe_4 : decode cX7_wipe 4 = .ok (.istore_n 1, 1) := by decide +kernel
theorem dX7_wipe_5 : decode cX7_wipe 5 = .ok (.aload_n 0, 1) := by decide +kernel
theorem dX7_wipe_6 : decode cX7_wipe 6 = .ok (.iconst 0, 1) := by decide +kernel
theorem dX7_wipe_7 : decode cX7_wipe 7 = .ok (.putfield 94, 3) := by decide +kernel
theorem dX7_wipe_10 : decode cX7_wipe 10 = .ok (.iload_n 1, 1) := by decide +kernel
