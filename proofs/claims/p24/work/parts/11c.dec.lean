theorem dX6_state_79 : decode cX6_state 79 = .ok (.goto 4, 3) := by decide +kernel
theorem dX6_state_82 : decode cX6_state 82 = .ok (.iconst 0, 1) := by decide +kernel
theorem dX6_state_83 : decode cX6_state 83 = .ok (.ireturn, 1) := by decide +kernel
theorem dX6_state_84 : decode cX6_state 84 = .ok (.aload_n 0, 1) := by decide +kernel
theorem dX6_state_85 : decode cX6_state 85 = .ok (.getfield 28, 3) := by decide +kernel
theorem dX6_state_88 : decode cX6_state 88 = .ok (.invokevirtual 98, 3) := by decide +kernel
theorem dX6_state_91 : decode cX6_state 91 = .ok (.ireturn, 1) := by decide +kernel
theorem dX6_state_92 : decode cX6_state 92 = .ok (.aload_n 0, 1) := by decide +kernel
theorem dX6_state_93 : decode cX6_state 93 = .ok (.getfield 28, 3) := by decide +kernel
theorem dX6_state_96 : decode cX6_state 96 = .ok (.invokevirtual 119, 3) := by decide +kernel
theorem dX6_state_99 : decode cX6_state 99 = .ok (.ireturn, 1) := by decide +kernel
theorem dX6_state_100 : decode cX6_state 100 = .ok (.aload_n 0, 1) := by decide +kernel
theorem dX6_state_101 : decode cX6_state 101 = .ok (.getfield 28, 3) := by decide +kernel
theorem dX6_state_104 : decode cX6_state 104 = .ok (.invokevirtual 165, 3) := by decide +kernel
theorem dX6_state_107 : decode cX6_state 107 = .ok (.ireturn, 1) := by decide +kernel
theorem dX6_state_108 : decode cX6_state 108 = .ok (.aload_n 0, 1) := by decide +kernel
theorem dX6_state_109 : decode cX6_state 109 = .ok (.getfield 28, 3) := by decide +kernel
theorem dX6_state_112 : decode cX6_state 112 = .ok (.invokevirtual 168, 3) := by decide +kernel
theorem dX6_state_115 : decode cX6_state 115 = .ok (.ireturn, 1) := by decide +kernel
theorem dX6_state_116 : decode cX6_state 116 = .ok (.aload_n 0, 1) := by decide +kernel
theorem dX6_state_117 : decode cX6_state 117 = .ok (.getfield 28, 3) := by decide +kernel
theorem dX6_state_120 : decode cX6_state 120 = .ok (.invokevirtual 171, 3) := by decide +kernel
theorem dX6_state_123 : decode cX6_state 123 = .ok (.ireturn, 1) := by decide +kernel
theorem dX6_state_124 : decode cX6_state 124 = .ok (.aload_n 0, 1) := by decide +kernel
theorem dX6_state_125 : decode cX6_state 125 = .ok (.getfield 28, 3) := by decide +kernel
theorem dX6_state_128 : decode cX6_state 128 = .ok (.invokevirtual 174, 3) := by decide +kernel
theorem dX6_state_131 : decode cX6_state 131 = .ok (.ireturn, 1) := by decide +kernel
theorem dX6_state_132 : decode cX6_state 132 = .ok (.aload_n 0, 1) := by decide +kernel
theorem dX6_state_133 : decode cX6_state 133 = .ok (.getfield 28, 3) := by decide +kernel
theorem dX6_state_136 : decode cX6_state 136 = .ok (.invokevirtual 177, 3) := by decide +kernel
theorem dX6_state_139 : decode cX6_state 139 = .ok (.ireturn, 1) := by decide +kernel
theorem dX6_state_140 : decode cX6_state 140 = .ok (.aload_n 0, 1) := by decide +kernel
theorem dX6_state_141 : decode cX6_state 141 = .ok (.getfield 19, 3) := by decide +kernel
theorem dX6_state_144 : decode cX6_state 144 = .ok (.invokevirtual 47, 3) := by decide +kernel
theorem dX6_state_147 : decode cX6_state 147 = .ok (.ireturn, 1) := by decide +kernel
theorem dX6_state_148 : decode cX6_state 148 = .ok (.aload_n 0, 1) := by decide +kernel
theorem dX6_state_149 : decode cX6_state 149 = .ok (.getfield 28, 3) := by decide +kernel
theorem dX6_state_152 : decode cX6_state 152 = .ok (.invokevirtual 88, 3) := by decide +kernel
theorem dX6_state_155 : decode cX6_state 155 = .ok (.ireturn, 1) := by decide +kernel
theorem dX6_state_156 : decode cX6_state 156 = .ok (.aload_n 0, 1) := by decide +kernel
theorem dX6_state_157 : decode cX6_state 157 = .ok (.getfield 28, 3) := by decide +kernel
theorem dX6_state_160 : decode cX6_state 160 = .ok (.iconst 0, 1) := by decide +kernel
theorem dX6_state_161 : decode cX6_state 161 = .ok (.invokevirtual 132, 3) := by decide +kernel
theorem dX6_state_164 : decode cX6_state 164 = .ok (.invokevirtual 148, 3) := by decide +kernel
theorem dX6_state_167 : decode cX6_state 167 = .ok (.aload_n 0, 1) := by decide +kernel
theorem dX6_state_168 : decode cX6_state 168 = .ok (.getfield 28, 3) := by decide +kernel
theorem dX6_state_171 : decode cX6_state 171 = .ok (.iconst 1, 1) := by decide +kernel
theorem dX6_state_172 : decode cX6_state 172 = .ok (.invokevirtual 132, 3) := by decide +kernel
theorem dX6_state_175 : decode cX6_state 175 = .ok (.invokevirtual 148, 3) := by decide +kernel
theorem dX6_state_178 : decode cX6_state 178 = .ok (.iadd, 1) := by decide +kernel
theorem dX6_state_179 : decode cX6_state 179 = .ok (.ireturn, 1) := by decide +kernel
theorem dX6_state_180 : decode cX6_state 180 = .ok (.aload_n 0, 1) := by decide +kernel
theorem dX6_state_181 : decode cX6_state 181 = .ok (.getfield 28, 3) := by decide +kernel
theorem dX6_state_184 : decode cX6_state 184 = .ok (.iconst 0, 1) := by decide +kernel
theorem dX6_state_185 : decode cX6_state 185 = .ok (.invokevirtual 132, 3) := by decide +kernel
theorem dX6_state_188 : decode cX6_state 188 = .ok (.invokevirtual 151, 3) := by decide +kernel
theorem dX6_state_191 : decode cX6_state 191 = .ok (.aload_n 0, 1) := by decide +kernel
theorem dX6_state_192 : decode cX6_state 192 = .ok (.getfield 28, 3) := by decide +kernel
theorem dX6_state_195 : decode cX6_state 195 = .ok (.iconst 1, 1) := by decide +kernel
theorem dX6_state_196 : decode cX6_state 196 = .ok (.invokevirtual 132, 3) := by decide +kernel
theorem dX6_state_199 : decode cX6_state 199 = .ok (.invokevirtual 151, 3) := by decide +kernel
theorem dX6_state_202 : decode cX6_state 202 = .ok (.iadd, 1) := by decide +kernel
theorem dX6_state_203 : decode cX6_state 203 = .ok (.ireturn, 1) := by decide +kernel
theorem dX6_state_204 : decode cX6_state 204 = .ok (.aload_n 0, 1) := by decide +kernel
theorem dX6_state_205 : decode cX6_state 205 = .ok (.getfield 10, 3) := by decide +kernel
theorem dX6_state_208 : decode cX6_state 208 = .ok (.invokevirtual 180, 3) := by decide +kernel
theorem dX6_state_211 : decode cX6_state 211 = .ok (.ireturn, 1) := by decide +kernel
theorem dX6_state_212 : decode cX6_state 212 = .ok (.bipush (-2), 2) := by decide +kernel
theorem dX6_state_214 : decode cX6_state 214 = .ok (.ireturn, 1) := by decide +kernel
theorem dX6_record_0 : decode cX6_record 0 = .ok (.aload_n 0, 1) := by decide +kernel
theorem dX6_record_1 : decode cX6_record 1 = .ok (.getfield 28, 3) := by decide +kernel
theorem dX6_record_4 : decode cX6_record 4 = .ok (.invokevirtual 84, 3) := by decide +kernel
theorem dX6_record_7 : decode cX6_record 7 = .ok (.ifCond .ne 6, 3) := by decide +kernel
theorem dX6_record_10 : decode cX6_record 10 = .ok (.bipush (-5), 2) := by decide +kernel
theorem dX6_record_12 : decode cX6_record 12 = .ok (.ireturn, 1) := by decide +kernel
theorem dX6_record_13 : decode cX6_record 13 = .ok (.aload_n 0, 1) := by decide +kernel
theorem dX6_record_14 : decode cX6_record 14 = .ok (.getfield 28, 3) := by decide +kernel
theorem dX6_record_17 : decode cX6_record 17 = .ok (.invokevirtual 101, 3) := by decide +kernel
theorem dX6_record_20 : decode cX6_record 20 = .ok (.iload_n 1, 1) := by decide +kernel
theorem dX6_record_21 : decode cX6_record 21 = .ok (.invokevirtual 65, 3) := by decide +kernel
theorem dX6_record_24 : decode cX6_record 24 = .ok (.ifCond .eq 14, 3) := by decide +kernel
theorem dX6_record_27 : decode cX6_record 27 = .ok (.aload_n 0, 1) := by decide +kernel
theorem dX6_record_28 : decode cX6_record 28 = .ok (.getfield 28, 3) := by decide +kernel
theorem dX6_record_31 : decode cX6_record 31 = .ok (.iload_n 1, 1) := by decide +kernel
theorem dX6_record_32 : decode cX6_record 32 = .ok (.invokevirtual 183, 3) := by decide +kernel
theorem dX6_record_35 : decode cX6_record 35 = .ok (.goto 4, 3) := by decide +kernel
theorem dX6_record_38 : decode cX6_record 38 = .ok (.iconst (-1), 1) := by decide +kernel
theorem dX6_record_39 : decode cX6_record 39 = .ok (.ireturn, 1) := by decide +kernel
theorem dX6_ifMigrated_0 : decode cX6_ifMigrated 0 = .ok (.aload_n 0, 1) := by decide +kernel
theorem dX6_ifMigrated_1 : decode cX6_ifMigrated 1 = .ok (.getfield 28, 3) := by decide +kernel
theorem dX6_ifMigrated_4 : decode cX6_ifMigrated 4 = .ok (.invokevirtual 116, 3) := by decide +kernel
theorem dX6_ifMigrated_7 : decode cX6_ifMigrated 7 = .ok (.ifCond .ne 6, 3) := by decide +kernel
theorem dX6_ifMigrated_10 : decode cX6_ifMigrated 10 = .ok (.bipush (-5), 2) := by decide +kernel
theorem dX6_ifMigrated_12 : decode cX6_ifMigrated 12 = .ok (.ireturn, 1) := by decide +kernel
theorem dX6_ifMigrated_13 : decode cX6_ifMigrated 13 = .ok (.aload_n 0, 1) := by decide +kernel
theorem dX6_ifMigrated_14 : decode cX6_ifMigrated 14 = .ok (.getfield 19, 3) := by decide +kernel
theorem dX6_ifMigrated_17 : decode cX6_ifMigrated 17 = .ok (.iload_n 1, 1) := by decide +kernel
theorem dX6_ifMigrated_18 : decode cX6_ifMigrated 18 = .ok (.invokevirtual 61, 3) := by decide +kernel
theorem dX6_ifMigrated_21 : decode cX6_ifMigrated 21 = .ok (.iload_n 2, 1) := by decide +kernel
theorem dX6_ifMigrated_22 : decode cX6_ifMigrated 22 = .ok (.invokevirtual 65, 3) := by decide +kernel
theorem dX6_ifMigrated_25 : decode cX6_ifMigrated 25 = .ok (.ifCond .ne 5, 3) := by decide +kernel
theorem dX6_ifMigrated_28 : decode cX6_ifMigrated 28 = .ok (.iconst (-1), 1) := by decide +kernel
theorem dX6_ifMigrated_29 : decode cX6_ifMigrated 29 = .ok (.ireturn, 1) := by decide +kernel
theorem dX6_ifMigrated_30 : decode cX6_ifMigrated 30 = .ok (.iload_n 1, 1) := by decide +kernel
theorem dX6_ifMigrated_31 : decode cX6_ifMigrated 31 = .ok (.aload_n 0, 1) := by decide +kernel
theorem dX6_ifMigrated_32 : decode cX6_ifMigrated 32 = .ok (.getfield 28, 3) := by decide +kernel
theorem dX6_ifMigrated_35 : decode cX6_ifMigrated 35 = .ok (.invokevirtual 119, 3) := by decide +kernel
theorem dX6_ifMigrated_38 : decode cX6_ifMigrated 38 = .ok (.if_icmp .gt 6, 3) := by decide +kernel
theorem dX6_ifMigrated_41 : decode cX6_ifMigrated 41 = .ok (.bipush (-2), 2) := by decide +kernel
theorem dX6_ifMigrated_43 : decode cX6_ifMigrated 43 = .ok (.ireturn, 1) := by decide +kernel
theorem dX6_ifMigrated_44 : decode cX6_ifMigrated 44 = .ok (.aload_n 0, 1) := by decide +kernel
theorem dX6_ifMigrated_45 : decode cX6_ifMigrated 45 = .ok (.getfield 28, 3) := by decide +kernel
theorem dX6_ifMigrated_48 : decode cX6_ifMigrated 48 = .ok (.iload_n 1, 1) := by decide +kernel
theorem dX6_ifMigrated_49 : decode cX6_ifMigrated 49 = .ok (.iload_n 2, 1) := by decide +kernel
theorem dX6_ifMigrated_50 : decode cX6_ifMigrated 50 = .ok (.invokevirtual 186, 3) := by decide +kernel
theorem dX6_ifMigrated_53 : decode cX6_ifMigrated 53 = .ok (.ireturn, 1) := by decide +kernel
theorem dX6_ifFailed_0 : decode cX6_ifFailed 0 = .ok (.aload_n 0, 1) := by decide +kernel
theorem dX6_ifFailed_1 : decode cX6_ifFailed 1 = .ok (.getfield 28, 3) := by decide +kernel
theorem dX6_ifFailed_4 : decode cX6_ifFailed 4 = .ok (.invokevirtual 84, 3) := by decide +kernel
theorem dX6_ifFailed_7 : decode cX6_ifFailed 7 = .ok (.ifCond .ne 6, 3) := by decide +kernel
theorem dX6_ifFailed_10 : decode cX6_ifFailed 10 = .ok (.bipush (-5), 2) := by decide +kernel
theorem dX6_ifFailed_12 : decode cX6_ifFailed 12 = .ok (.ireturn, 1) := by decide +kernel
theorem dX6_ifFailed_13 : decode cX6_ifFailed 13 = .ok (.aload_n 0, 1) := by decide +kernel
theorem dX6_ifFailed_14 : decode cX6_ifFailed 14 = .ok (.getfield 28, 3) := by decide +kernel
theorem dX6_ifFailed_17 : decode cX6_ifFailed 17 = .ok (.invokevirtual 101, 3) := by decide +kernel
theorem dX6_ifFailed_20 : decode cX6_ifFailed 20 = .ok (.astore 5, 2) := by decide +kernel
theorem dX6_ifFailed_22 : decode cX6_ifFailed 22 = .ok (.aload 5, 2) := by decide +kernel
theorem dX6_ifFailed_24 : decode cX6_ifFailed 24 = .ok (.iload_n 1, 1) := by decide +kernel
theorem dX6_ifFailed_25 : decode cX6_ifFailed 25 = .ok (.invokevirtual 65, 3) := by decide +kernel
theorem dX6_ifFailed_28 : decode cX6_ifFailed 28 = .ok (.ifCond .eq 13, 3) := by decide +kernel
theorem dX6_ifFailed_31 : decode cX6_ifFailed 31 = .ok (.aload 5, 2) := by decide +kernel
theorem dX6_ifFailed_33 : decode cX6_ifFailed 33 = .ok (.iload 4, 2) := by decide +kernel
theorem dX6_ifFailed_35 : decode cX6_ifFailed 35 = .ok (.invokevirtual 65, 3) := by decide +kernel
theorem dX6_ifFailed_38 : decode cX6_ifFailed 38 = .ok (.ifCond .ne 5, 3) := by decide +kernel
theorem dX6_ifFailed_41 : decode cX6_ifFailed 41 = .ok (.iconst (-1), 1) := by decide +kernel
theorem dX6_ifFailed_42 : decode cX6_ifFailed 42 = .ok (.ireturn, 1) := by decide +kernel
theorem dX6_ifFailed_43 : decode cX6_ifFailed 43 = .ok (.aload 5, 2) := by decide +kernel
theorem dX6_ifFailed_45 : decode cX6_ifFailed 45 = .ok (.iload_n 1, 1) := by decide +kernel
theorem dX6_ifFailed_46 : decode cX6_ifFailed 46 = .ok (.iload_n 2, 1) := by decide +kernel
theorem dX6_ifFailed_47 : decode cX6_ifFailed 47 = .ok (.invokevirtual 108, 3) := by decide +kernel
theorem dX6_ifFailed_50 : decode cX6_ifFailed 50 = .ok (.ifCond .eq 10, 3) := by decide +kernel
theorem dX6_ifFailed_53 : decode cX6_ifFailed 53 = .ok (.iload_n 3, 1) := by decide +kernel
theorem dX6_ifFailed_54 : decode cX6_ifFailed 54 = .ok (.invokestatic 81, 3) := by decide +kernel
theorem dX6_ifFailed_57 : decode cX6_ifFailed 57 = .ok (.ifCond .ne 6, 3) := by decide +kernel
theorem dX6_ifFailed_60 : decode cX6_ifFailed 60 = .ok (.bipush (-2), 2) := by decide +kernel
theorem dX6_ifFailed_62 : decode cX6_ifFailed 62 = .ok (.ireturn, 1) := by decide +kernel
theorem dX6_ifFailed_63 : decode cX6_ifFailed 63 = .ok (.aload_n 0, 1) := by decide +kernel
theorem dX6_ifFailed_64 : decode cX6_ifFailed 64 = .ok (.getfield 32, 3) := by decide +kernel
theorem dX6_ifFailed_67 : decode cX6_ifFailed 67 = .ok (.aload_n 0, 1) := by decide +kernel
theorem dX6_ifFailed_68 : decode cX6_ifFailed 68 = .ok (.getfield 28, 3) := by decide +kernel
theorem dX6_ifFailed_71 : decode cX6_ifFailed 71 = .ok (.invokevirtual 189, 3) := by decide +kernel
theorem dX6_ifFailed_74 : decode cX6_ifFailed 74 = .ok (.aload_n 0, 1) := by decide +kernel
theorem dX6_ifFailed_75 : decode cX6_ifFailed 75 = .ok (.getfield 32, 3) := by decide +kernel
theorem dX6_ifFailed_78 : decode cX6_ifFailed 78 = .ok (.iload_n 3, 1) := by decide +kernel
theorem dX6_ifFailed_79 : decode cX6_ifFailed 79 = .ok (.invokevirtual 91, 3) := by decide +kernel
theorem dX6_ifFailed_82 : decode cX6_ifFailed 82 = .ok (.aload_n 0, 1) := by decide +kernel
theorem dX6_ifFailed_83 : decode cX6_ifFailed 83 = .ok (.getfield 32, 3) := by decide +kernel
theorem dX6_ifFailed_86 : decode cX6_ifFailed 86 = .ok (.iload_n 1, 1) := by decide +kernel
theorem dX6_ifFailed_87 : decode cX6_ifFailed 87 = .ok (.iload_n 2, 1) := by decide +kernel
theorem dX6_ifFailed_88 : decode cX6_ifFailed 88 = .ok (.invokevirtual 112, 3) := by decide +kernel
theorem dX6_ifFailed_91 : decode cX6_ifFailed 91 = .ok (.pop, 1) := by decide +kernel
theorem dX6_ifFailed_92 : decode cX6_ifFailed 92 = .ok (.aload_n 0, 1) := by decide +kernel
theorem dX6_ifFailed_93 : decode cX6_ifFailed 93 = .ok (.getfield 32, 3) := by decide +kernel
theorem dX6_ifFailed_96 : decode cX6_ifFailed 96 = .ok (.invokevirtual 95, 3) := by decide +kernel
theorem dX6_ifFailed_99 : decode cX6_ifFailed 99 = .ok (.aload_n 0, 1) := by decide +kernel
theorem dX6_ifFailed_100 : decode cX6_ifFailed 100 = .ok (.getfield 32, 3) := by decide +kernel
theorem dX6_ifFailed_103 : decode cX6_ifFailed 103 = .ok (.invokevirtual 101, 3) := by decide +kernel
theorem dX6_ifFailed_106 : decode cX6_ifFailed 106 = .ok (.iload 4, 2) := by decide +kernel
theorem dX6_ifFailed_108 : decode cX6_ifFailed 108 = .ok (.invokevirtual 65, 3) := by decide +kernel
theorem dX6_ifFailed_111 : decode cX6_ifFailed 111 = .ok (.ifCond .eq 15, 3) := by decide +kernel
theorem dX6_ifFailed_114 : decode cX6_ifFailed 114 = .ok (.aload_n 0, 1) := by decide +kernel
theorem dX6_ifFailed_115 : decode cX6_ifFailed 115 = .ok (.getfield 32, 3) := by decide +kernel
theorem dX6_ifFailed_118 : decode cX6_ifFailed 118 = .ok (.iload 4, 2) := by decide +kernel
theorem dX6_ifFailed_120 : decode cX6_ifFailed 120 = .ok (.invokevirtual 105, 3) := by decide +kernel
theorem dX6_ifFailed_123 : decode cX6_ifFailed 123 = .ok (.goto 5, 3) := by decide +kernel
theorem dX6_ifFailed_126 : decode cX6_ifFailed 126 = .ok (.bipush (-6), 2) := by decide +kernel
theorem dX6_ifFailed_128 : decode cX6_ifFailed 128 = .ok (.ireturn, 1) := by decide +kernel
theorem dX6_put_0 : decode cX6_put 0 = .ok (.aload_n 0, 1) := by decide +kernel
theorem dX6_put_1 : decode cX6_put 1 = .ok (.getfield 10, 3) := by decide +kernel
theorem dX6_put_4 : decode cX6_put 4 = .ok (.lload_n 1, 1) := by decide +kernel
theorem dX6_put_5 : decode cX6_put 5 = .ok (.invokevirtual 193, 3) := by decide +kernel
theorem dX6_put_8 : decode cX6_put 8 = .ok (.ireturn, 1) := by decide +kernel
theorem dX6_wipe_0 : decode cX6_wipe 0 = .ok (.aload_n 0, 1) := by decide +kernel
theorem dX6_wipe_1 : decode cX6_wipe 1 = .ok (.getfield 10, 3) := by decide +kernel
theorem dX6_wipe_4 : decode cX6_wipe 4 = .ok (.invokevirtual 180, 3) := by decide +kernel
theorem dX6_wipe_7 : decode cX6_wipe 7 = .ok (.istore_n 1, 1) := by decide +kernel
theorem dX6_wipe_8 : decode cX6_wipe 8 = .ok (.aload_n 0, 1) := by decide +kernel
theorem dX6_wipe_9 : decode cX6_wipe 9 = .ok (.getfield 10, 3) := by decide +kernel
theorem dX6_wipe_12 : decode cX6_wipe 12 = .ok (.invokevirtual 58, 3) := by decide +kernel
theorem dX6_wipe_15 : decode cX6_wipe 15 = .ok (.iload_n 1, 1) := by decide +kernel
theorem dX6_wipe_16 : decode cX6_wipe 16 = .ok (.ireturn, 1) := by decide +kernel
theorem dX6_fault_0 : decode cX6_fault 0 = .ok (.aload_n 0, 1) := by decide +kernel
theorem dX6_fault_1 : decode cX6_fault 1 = .ok (.getfield 10, 3) := by decide +kernel
theorem dX6_fault_4 : decode cX6_fault 4 = .ok (.invokevirtual 43, 3) := by decide +kernel
theorem dX6_fault_7 : decode cX6_fault 7 = .ok (.ireturn, 1) := by decide +kernel
theorem dX6_keep_0 : decode cX6_keep 0 = .ok (.iload_n 1, 1) := by decide +kernel
theorem dX6_keep_1 : decode cX6_keep 1 = .ok (.invokestatic 197, 3) := by decide +kernel
theorem dX6_keep_4 : decode cX6_keep 4 = .ok (.ifCond .ne 6, 3) := by decide +kernel
theorem dX6_keep_7 : decode cX6_keep 7 = .ok (.bipush (-2), 2) := by decide +kernel
theorem dX6_keep_9 : decode cX6_keep 9 = .ok (.ireturn, 1) := by decide +kernel
theorem dX6_keep_10 : decode cX6_keep 10 = .ok (.aload_n 0, 1) := by decide +kernel
theorem dX6_keep_11 : decode cX6_keep 11 = .ok (.getfield 35, 3) := by decide +kernel
theorem dX6_keep_14 : decode cX6_keep 14 = .ok (.iload_n 1, 1) := by decide +kernel
theorem dX6_keep_15 : decode cX6_keep 15 = .ok (.aaload, 1) := by decide +kernel
theorem dX6_keep_16 : decode cX6_keep 16 = .ok (.aload_n 0, 1) := by decide +kernel
theorem dX6_keep_17 : decode cX6_keep 17 = .ok (.getfield 28, 3) := by decide +kernel
theorem dX6_keep_20 : decode cX6_keep 20 = .ok (.invokevirtual 189, 3) := by decide +kernel
theorem dX6_keep_23 : decode cX6_keep 23 = .ok (.aload_n 0, 1) := by decide +kernel
theorem dX6_keep_24 : decode cX6_keep 24 = .ok (.getfield 39, 3) := by decide +kernel
theorem dX6_keep_27 : decode cX6_keep 27 = .ok (.iload_n 1, 1) := by decide +kernel
theorem dX6_keep_28 : decode cX6_keep 28 = .ok (.iconst 1, 1) := by decide +kernel
theorem dX6_keep_29 : decode cX6_keep 29 = .ok (.bastore, 1) := by decide +kernel
theorem dX6_keep_30 : decode cX6_keep 30 = .ok (.aload_n 0, 1) := by decide +kernel
theorem dX6_keep_31 : decode cX6_keep 31 = .ok (.getfield 28, 3) := by decide +kernel
theorem dX6_keep_34 : decode cX6_keep 34 = .ok (.invokevirtual 98, 3) := by decide +kernel
theorem dX6_keep_37 : decode cX6_keep 37 = .ok (.ireturn, 1) := by decide +kernel
theorem dX6_back_0 : decode cX6_back 0 = .ok (.iload_n 1, 1) := by decide +kernel
theorem dX6_back_1 : decode cX6_back 1 = .ok (.invokestatic 197, 3) := by decide +kernel
theorem dX6_back_4 : decode cX6_back 4 = .ok (.ifCond .ne 6, 3) := by decide +kernel
theorem dX6_back_7 : decode cX6_back 7 = .ok (.bipush (-2), 2) := by decide +kernel
theorem dX6_back_9 : decode cX6_back 9 = .ok (.ireturn, 1) := by decide +kernel
theorem dX6_back_10 : decode cX6_back 10 = .ok (.aload_n 0, 1) := by decide +kernel
theorem dX6_back_11 : decode cX6_back 11 = .ok (.getfield 39, 3) := by decide +kernel
theorem dX6_back_14 : decode cX6_back 14 = .ok (.iload_n 1, 1) := by decide +kernel
theorem dX6_back_15 : decode cX6_back 15 = .ok (.baload, 1) := by decide +kernel
theorem dX6_back_16 : decode cX6_back 16 = .ok (.ifCond .ne 6, 3) := by decide +kernel
theorem dX6_back_19 : decode cX6_back 19 = .ok (.bipush (-5), 2) := by decide +kernel
theorem dX6_back_21 : decode cX6_back 21 = .ok (.ireturn, 1) := by decide +kernel
theorem dX6_back_22 : decode cX6_back 22 = .ok (.aload_n 0, 1) := by decide +kernel
theorem dX6_back_23 : decode cX6_back 23 = .ok (.getfield 28, 3) := by decide +kernel
theorem dX6_back_26 : decode cX6_back 26 = .ok (.aload_n 0, 1) := by decide +kernel
theorem dX6_back_27 : decode cX6_back 27 = .ok (.getfield 35, 3) := by decide +kernel
theorem dX6_back_30 : decode cX6_back 30 = .ok (.iload_n 1, 1) := by decide +kernel
theorem dX6_back_31 : decode cX6_back 31 = .ok (.aaload, 1) := by decide +kernel
theorem dX6_back_32 : decode cX6_back 32 = .ok (.invokevirtual 189, 3) := by decide +kernel
theorem dX6_back_35 : decode cX6_back 35 = .ok (.aload_n 0, 1) := by decide +kernel
theorem dX6_back_36 : decode cX6_back 36 = .ok (.getfield 28, 3) := by decide +kernel
theorem dX6_back_39 : decode cX6_back 39 = .ok (.invokevirtual 98, 3) := by decide +kernel
theorem dX6_back_42 : decode cX6_back 42 = .ok (.ireturn, 1) := by decide +kernel
theorem dX6_isPage_0 : decode cX6_isPage 0 = .ok (.iload_n 0, 1) := by decide +kernel
theorem dX6_isPage_1 : decode cX6_isPage 1 = .ok (.ifCond .lt 12, 3) := by decide +kernel
theorem dX6_isPage_4 : decode cX6_isPage 4 = .ok (.iload_n 0, 1) := by decide +kernel
theorem dX6_isPage_5 : decode cX6_isPage 5 = .ok (.iconst 2, 1) := by decide +kernel
theorem dX6_isPage_6 : decode cX6_isPage 6 = .ok (.if_icmp .ge 7, 3) := by decide +kernel
theorem dX6_isPage_9 : decode cX6_isPage 9 = .ok (.iconst 1, 1) := by decide +kernel
theorem dX6_isPage_10 : decode cX6_isPage 10 = .ok (.goto 4, 3) := by decide +kernel
theorem dX6_isPage_13 : decode cX6_isPage 13 = .ok (.iconst 0, 1) := by decide +kernel
theorem dX6_isPage_14 : decode cX6_isPage 14 = .ok (.ireturn, 1) := by decide +kernel
theorem dX6_isCell_0 : decode cX6_isCell 0 = .ok (.iload_n 0, 1) := by decide +kernel
theorem dX6_isCell_1 : decode cX6_isCell 1 = .ok (.invokestatic 145, 3) := by decide +kernel
theorem dX6_isCell_4 : decode cX6_isCell 4 = .ok (.ifCond .eq 17, 3) := by decide +kernel
theorem dX6_isCell_7 : decode cX6_isCell 7 = .ok (.iload_n 1, 1) := by decide +kernel
theorem dX6_isCell_8 : decode cX6_isCell 8 = .ok (.ifCond .lt 13, 3) := by decide +kernel
theorem dX6_isCell_11 : decode cX6_isCell 11 = .ok (.iload_n 1, 1) := by decide +kernel
theorem dX6_isCell_12 : decode cX6_isCell 12 = .ok (.bipush 48, 2) := by decide +kernel
theorem dX6_isCell_14 : decode cX6_isCell 14 = .ok (.if_icmp .ge 7, 3) := by decide +kernel
theorem dX6_isCell_17 : decode cX6_isCell 17 = .ok (.iconst 1, 1) := by decide +kernel
theorem dX6_isCell_18 : decode cX6_isCell 18 = .ok (.goto 4, 3) := by decide +kernel
theorem dX6_isCell_21 : decode cX6_isCell 21 = .ok (.iconst 0, 1) := by decide +kernel
theorem dX6_isCell_22 : decode cX6_isCell 22 = .ok (.ireturn, 1) := by decide +kernel
theorem dX6_isImage_0 : decode cX6_isImage 0 = .ok (.iload_n 0, 1) := by decide +kernel
theorem dX6_isImage_1 : decode cX6_isImage 1 = .ok (.ifCond .lt 12, 3) := by decide +kernel
theorem dX6_isImage_4 : decode cX6_isImage 4 = .ok (.iload_n 0, 1) := by decide +kernel
theorem dX6_isImage_5 : decode cX6_isImage 5 = .ok (.iconst 2, 1) := by decide +kernel
theorem dX6_isImage_6 : decode cX6_isImage 6 = .ok (.if_icmp .ge 7, 3) := by decide +kernel
theorem dX6_isImage_9 : decode cX6_isImage 9 = .ok (.iconst 1, 1) := by decide +kernel
theorem dX6_isImage_10 : decode cX6_isImage 10 = .ok (.goto 4, 3) := by decide +kernel
theorem dX6_isImage_13 : decode cX6_isImage 13 = .ok (.iconst 0, 1) := by decide +kernel
theorem dX6_isImage_14 : decode cX6_isImage 14 = .ok (.ireturn, 1) := by decide +kernel
theorem dX6_isCountOfWrites_0 : decode cX6_isCountOfWrites 0 = .ok (.iload_n 0, 1) := by decide +kernel
theorem dX6_isCountOfWrites_1 : decode cX6_isCountOfWrites 1 = .ok (.ifCond .lt 14, 3) := by decide +kernel
theorem dX6_isCountOfWrites_4 : decode cX6_isCountOfWrites 4 = .ok (.iload_n 0, 1) := by decide +kernel
theorem dX6_isCountOfWrites_5 : decode cX6_isCountOfWrites 5 = .ok (.sipush 200, 3) := by decide +kernel
theorem dX6_isCountOfWrites_8 : decode cX6_isCountOfWrites 8 = .ok (.if_icmp .gt 7, 3) := by decide +kernel
theorem dX6_isCountOfWrites_11 : decode cX6_isCountOfWrites 11 = .ok (.iconst 1, 1) := by decide +kernel
theorem dX6_isCountOfWrites_12 : decode cX6_isCountOfWrites 12 = .ok (.goto 4, 3) := by decide +kernel
theorem dX6_isCountOfWrites_15 : decode cX6_isCountOfWrites 15 = .ok (.iconst 0, 1) := by decide +kernel
theorem dX6_isCountOfWrites_16 : decode cX6_isCountOfWrites 16 = .ok (.ireturn, 1) := by decide +kernel
theorem dX6_isName_0 : decode cX6_isName 0 = .ok (.iload_n 0, 1) := by decide +kernel
theorem dX6_isName_1 : decode cX6_isName 1 = .ok (.ifCond .lt 13, 3) := by decide +kernel
theorem dX6_isName_4 : decode cX6_isName 4 = .ok (.iload_n 0, 1) := by decide +kernel
theorem dX6_isName_5 : decode cX6_isName 5 = .ok (.bipush 10, 2) := by decide +kernel
theorem dX6_isName_7 : decode cX6_isName 7 = .ok (.if_icmp .ge 7, 3) := by decide +kernel
theorem dX6_isName_10 : decode cX6_isName 10 = .ok (.iconst 1, 1) := by decide +kernel
theorem dX6_isName_11 : decode cX6_isName 11 = .ok (.goto 4, 3) := by decide +kernel
theorem dX6_isName_14 : decode cX6_isName 14 = .ok (.iconst 0, 1) := by decide +kernel
theorem dX6_isName_15 : decode cX6_isName 15 = .ok (.ireturn, 1) := by decide +kernel
theorem dJ9_floorMod_7cf53_0 : decode cJ9_floorMod_7cf53 0 = .ok (.iload_n 0, 1) := by decide +kernel
theorem dJ9_floorMod_7cf53_1 : decode cJ9_floorMod_7cf53 1 = .ok (.iload_n 1, 1) := by decide +kernel
theorem dJ9_floorMod_7cf53_2 : decode cJ9_floorMod_7cf53 2 = .ok (.irem, 1) := by decide +kernel
theorem dJ9_floorMod_7cf53_3 : decode cJ9_floorMod_7cf53 3 = .ok (.istore_n 2, 1) := by decide +kernel
theorem dJ9_floorMod_7cf53_4 : decode cJ9_floorMod_7cf53 4 = .ok (.iload_n 0, 1) := by decide +kernel
theorem dJ9_floorMod_7cf53_5 : decode cJ9_floorMod_7cf53 5 = .ok (.iload_n 1, 1) := by decide +kernel
theorem dJ9_floorMod_7cf53_6 : decode cJ9_floorMod_7cf53 6 = .ok (.ixor, 1) := by decide +kernel
theorem dJ9_floorMod_7cf53_7 : decode cJ9_floorMod_7cf53 7 = .ok (.ifCond .ge 11, 3) := by decide +kernel
theorem dJ9_floorMod_7cf53_10 : decode cJ9_floorMod_7cf53 10 = .ok (.iload_n 2, 1) := by decide +kernel
theorem dJ9_floorMod_7cf53_11 : decode cJ9_floorMod_7cf53 11 = .ok (.ifCond .eq 7, 3) := by decide +kernel
theorem dJ9_floorMod_7cf53_14 : decode cJ9_floorMod_7cf53 14 = .ok (.iload_n 2, 1) := by decide +kernel
theorem dJ9_floorMod_7cf53_15 : decode cJ9_floorMod_7cf53 15 = .ok (.iload_n 1, 1) := by decide +kernel
theorem dJ9_floorMod_7cf53_16 : decode cJ9_floorMod_7cf53 16 = .ok (.iadd, 1) := by decide +kernel
theorem dJ9_floorMod_7cf53_17 : decode cJ9_floorMod_7cf53 17 = .ok (.ireturn, 1) := by decide +kernel
theorem dJ9_floorMod_7cf53_18 : decode cJ9_floorMod_7cf53 18 = .ok (.iload_n 2, 1) := by decide +kernel
theorem dJ9_floorMod_7cf53_19 : decode cJ9_floorMod_7cf53 19 = .ok (.ireturn, 1) := by decide +kernel
theorem dJ9_min_7cf53_0 : decode cJ9_min_7cf53 0 = .ok (.iload_n 0, 1) := by decide +kernel
theorem dJ9_min_7cf53_1 : decode cJ9_min_7cf53 1 = .ok (.iload_n 1, 1) := by decide +kernel
theorem dJ9_min_7cf53_2 : decode cJ9_min_7cf53 2 = .ok (.if_icmp .gt 7, 3) := by decide +kernel
theorem dJ9_min_7cf53_5 : decode cJ9_min_7cf53 5 = .ok (.iload_n 0, 1) := by decide +kernel
theorem dJ9_min_7cf53_6 : decode cJ9_min_7cf53 6 = .ok (.goto 4, 3) := by decide +kernel
theorem dJ9_min_7cf53_9 : decode cJ9_min_7cf53 9 = .ok (.iload_n 1, 1) := by decide +kernel
theorem dJ9_min_7cf53_10 : decode cJ9_min_7cf53 10 = .ok (.ireturn, 1) := by decide +kernel
theorem dL_cell_0 : decode cL_cell 0 = .ok (.iload_n 1, 1) := by decide +kernel
theorem dL_cell_1 : decode cL_cell 1 = .ok (.aload_n 0, 1) := by decide +kernel
theorem dL_cell_2 : decode cL_cell 2 = .ok (.arraylength, 1) := by decide +kernel
theorem dL_cell_3 : decode cL_cell 3 = .ok (.if_icmp .ge 9, 3) := by decide +kernel
theorem dL_cell_6 : decode cL_cell 6 = .ok (.aload_n 0, 1) := by decide +kernel
theorem dL_cell_7 : decode cL_cell 7 = .ok (.iload_n 1, 1) := by decide +kernel
theorem dL_cell_8 : decode cL_cell 8 = .ok (.iaload, 1) := by decide +kernel
theorem dL_cell_9 : decode cL_cell 9 = .ok (.goto 11, 3) := by decide +kernel
theorem dL_cell_12 : decode cL_cell 12 = .ok (.ldc 7, 2) := by decide +kernel
theorem dL_cell_14 : decode cL_cell 14 = .ok (.iload_n 1, 1) := by decide +kernel
theorem dL_cell_15 : decode cL_cell 15 = .ok (.sipush 1607, 3) := by decide +kernel
theorem dL_cell_18 : decode cL_cell 18 = .ok (.iadd, 1) := by decide +kernel
theorem dL_cell_19 : decode cL_cell 19 = .ok (.imul, 1) := by decide +kernel
theorem dL_cell_20 : decode cL_cell 20 = .ok (.ireturn, 1) := by decide +kernel
theorem dL_up_0 : decode cL_up 0 = .ok (.iload_n 0, 1) := by decide +kernel
theorem dL_up_1 : decode cL_up 1 = .ok (.ldc 8, 2) := by decide +kernel
theorem dL_up_3 : decode cL_up 3 = .ok (.iand, 1) := by decide +kernel
theorem dL_up_4 : decode cL_up 4 = .ok (.iload_n 1, 1) := by decide +kernel
theorem dL_up_5 : decode cL_up 5 = .ok (.irem, 1) := by decide +kernel
theorem dL_up_6 : decode cL_up 6 = .ok (.ireturn, 1) := by decide +kernel
theorem dL_number_0 : decode cL_number 0 = .ok (.iload_n 1, 1) := by decide +kernel
theorem dL_number_1 : decode cL_number 1 = .ok (.bipush 99, 2) := by decide +kernel
theorem dL_number_3 : decode cL_number 3 = .ok (.if_icmp .le 16, 3) := by decide +kernel
theorem dL_number_6 : decode cL_number 6 = .ok (.aload_n 0, 1) := by decide +kernel
theorem dL_number_7 : decode cL_number 7 = .ok (.bipush 48, 2) := by decide +kernel
theorem dL_number_9 : decode cL_number 9 = .ok (.iload_n 1, 1) := by decide +kernel
theorem dL_number_10 : decode cL_number 10 = .ok (.bipush 100, 2) := by decide +kernel
theorem dL_number_12 : decode cL_number 12 = .ok (.idiv, 1) := by decide +kernel
theorem dL_number_13 : decode cL_number 13 = .ok (.iadd, 1) := by decide +kernel
theorem dL_number_14 : decode cL_number 14 = .ok (.i2l, 1) := by decide +kernel
theorem dL_number_15 : decode cL_number 15 = .ok (.invokevirtual 24, 3) := by decide +kernel
theorem dL_number_18 : decode cL_number 18 = .ok (.pop, 1) := by decide +kernel
theorem dL_number_19 : decode cL_number 19 = .ok (.iload_n 1, 1) := by decide +kernel
theorem dL_number_20 : decode cL_number 20 = .ok (.bipush 9, 2) := by decide +kernel
theorem dL_number_22 : decode cL_number 22 = .ok (.if_icmp .le 19, 3) := by decide +kernel
theorem dL_number_25 : decode cL_number 25 = .ok (.aload_n 0, 1) := by decide +kernel
theorem dL_number_26 : decode cL_number 26 = .ok (.bipush 48, 2) := by decide +kernel
theorem dL_number_28 : decode cL_number 28 = .ok (.iload_n 1, 1) := by decide +kernel
theorem dL_number_29 : decode cL_number 29 = .ok (.bipush 10, 2) := by decide +kernel
theorem dL_number_31 : decode cL_number 31 = .ok (.idiv, 1) := by decide +kernel
theorem dL_number_32 : decode cL_number 32 = .ok (.bipush 10, 2) := by decide +kernel
theorem dL_number_34 : decode cL_number 34 = .ok (.irem, 1) := by decide +kernel
theorem dL_number_35 : decode cL_number 35 = .ok (.iadd, 1) := by decide +kernel
theorem dL_number_36 : decode cL_number 36 = .ok (.i2l, 1) := by decide +kernel
theorem dL_number_37 : decode cL_number 37 = .ok (.invokevirtual 24, 3) := by decide +kernel
theorem dL_number_40 : decode cL_number 40 = .ok (.pop, 1) := by decide +kernel
theorem dL_number_41 : decode cL_number 41 = .ok (.aload_n 0, 1) := by decide +kernel
theorem dL_number_42 : decode cL_number 42 = .ok (.bipush 48, 2) := by decide +kernel
theorem dL_number_44 : decode cL_number 44 = .ok (.iload_n 1, 1) := by decide +kernel
theorem dL_number_45 : decode cL_number 45 = .ok (.bipush 10, 2) := by decide +kernel
theorem dL_number_47 : decode cL_number 47 = .ok (.irem, 1) := by decide +kernel
theorem dL_number_48 : decode cL_number 48 = .ok (.iadd, 1) := by decide +kernel
theorem dL_number_49 : decode cL_number 49 = .ok (.i2l, 1) := by decide +kernel
theorem dL_number_50 : decode cL_number 50 = .ok (.invokevirtual 24, 3) := by decide +kernel
theorem dL_number_53 : decode cL_number 53 = .ok (.pop, 1) := by decide +kernel
theorem dL_number_54 : decode cL_number 54 = .ok (.return_, 1) := by decide +kernel
theorem dL_later_0 : decode cL_later 0 = .ok (.aload_n 0, 1) := by decide +kernel
theorem dL_later_1 : decode cL_later 1 = .ok (.bipush 8, 2) := by decide +kernel
theorem dL_later_3 : decode cL_later 3 = .ok (.invokevirtual 48, 3) := by decide +kernel
theorem dL_later_6 : decode cL_later 6 = .ok (.istore_n 2, 1) := by decide +kernel
theorem dL_later_7 : decode cL_later 7 = .ok (.iload_n 1, 1) := by decide +kernel
theorem dL_later_8 : decode cL_later 8 = .ok (.iconst 3, 1) := by decide +kernel
theorem dL_later_9 : decode cL_later 9 = .ok (.invokestatic 30, 3) := by decide +kernel
theorem dL_later_12 : decode cL_later 12 = .ok (.istore_n 3, 1) := by decide +kernel
theorem dL_later_13 : decode cL_later 13 = .ok (.iconst 2, 1) := by decide +kernel
theorem dL_later_14 : decode cL_later 14 = .ok (.iload_n 1, 1) := by decide +kernel
theorem dL_later_15 : decode cL_later 15 = .ok (.iconst 3, 1) := by decide +kernel
theorem dL_later_16 : decode cL_later 16 = .ok (.ishr, 1) := by decide +kernel
theorem dL_later_17 : decode cL_later 17 = .ok (.bipush 8, 2) := by decide +kernel
theorem dL_later_19 : decode cL_later 19 = .ok (.invokestatic 30, 3) := by decide +kernel
theorem dL_later_22 : decode cL_later 22 = .ok (.iadd, 1) := by decide +kernel
theorem dL_later_23 : decode cL_later 23 = .ok (.istore 4, 2) := by decide +kernel
theorem dL_later_25 : decode cL_later 25 = .ok (.iload_n 1, 1) := by decide +kernel
theorem dL_later_26 : decode cL_later 26 = .ok (.bipush 6, 2) := by decide +kernel
theorem dL_later_28 : decode cL_later 28 = .ok (.ishr, 1) := by decide +kernel
theorem dL_later_29 : decode cL_later 29 = .ok (.sipush 256, 3) := by decide +kernel
theorem dL_later_32 : decode cL_later 32 = .ok (.invokestatic 30, 3) := by decide +kernel
theorem dL_later_35 : decode cL_later 35 = .ok (.istore 5, 2) := by decide +kernel
theorem dL_later_37 : decode cL_later 37 = .ok (.iload_n 1, 1) := by decide +kernel
theorem dL_later_38 : decode cL_later 38 = .ok (.bipush 10, 2) := by decide +kernel
theorem dL_later_40 : decode cL_later 40 = .ok (.ishr, 1) := by decide +kernel
theorem dL_later_41 : decode cL_later 41 = .ok (.iconst 3, 1) := by decide +kernel
theorem dL_later_42 : decode cL_later 42 = .ok (.invokestatic 30, 3) := by decide +kernel
theorem dL_later_45 : decode cL_later 45 = .ok (.istore 6, 2) := by decide +kernel
theorem dL_later_47 : decode cL_later 47 = .ok (.iload_n 1, 1) := by decide +kernel
theorem dL_later_48 : decode cL_later 48 = .ok (.bipush 14, 2) := by decide +kernel
theorem dL_later_50 : decode cL_later 50 = .ok (.ishr, 1) := by decide +kernel
theorem dL_later_51 : decode cL_later 51 = .ok (.iconst 2, 1) := by decide +kernel
theorem dL_later_52 : decode cL_later 52 = .ok (.invokestatic 30, 3) := by decide +kernel
theorem dL_later_55 : decode cL_later 55 = .ok (.ifCond .ne 7, 3) := by decide +kernel
theorem dL_later_58 : decode cL_later 58 = .ok (.iconst 1, 1) := by decide +kernel
theorem dL_later_59 : decode cL_later 59 = .ok (.goto 4, 3) := by decide +kernel
theorem dL_later_62 : decode cL_later 62 = .ok (.iconst 0, 1) := by decide +kernel
theorem dL_later_63 : decode cL_later 63 = .ok (.istore 7, 2) := by decide +kernel
theorem dL_later_65 : decode cL_later 65 = .ok (.aload_n 0, 1) := by decide +kernel
theorem dL_later_66 : decode cL_later 66 = .ok (.bipush 97, 2) := by decide +kernel
theorem dL_later_68 : decode cL_later 68 = .ok (.iload_n 3, 1) := by decide +kernel
theorem dL_later_69 : decode cL_later 69 = .ok (.iadd, 1) := by decide +kernel
theorem dL_later_70 : decode cL_later 70 = .ok (.i2l, 1) := by decide +kernel
theorem dL_later_71 : decode cL_later 71 = .ok (.bipush 24, 2) := by decide +kernel
theorem dL_later_73 : decode cL_later 73 = .ok (.lshl, 1) := by decide +kernel
theorem dL_later_74 : decode cL_later 74 = .ok (.iload 7, 2) := by decide +kernel
theorem dL_later_76 : decode cL_later 76 = .ok (.ifCond .eq 8, 3) := by decide +kernel
theorem dL_later_79 : decode cL_later 79 = .ok (.bipush 42, 2) := by decide +kernel
theorem dL_later_81 : decode cL_later 81 = .ok (.goto 5, 3) := by decide +kernel
theorem dL_later_84 : decode cL_later 84 = .ok (.bipush 47, 2) := by decide +kernel
theorem dL_later_86 : decode cL_later 86 = .ok (.i2l, 1) := by decide +kernel
theorem dL_later_87 : decode cL_later 87 = .ok (.bipush 16, 2) := by decide +kernel
theorem dL_later_89 : decode cL_later 89 = .ok (.lshl, 1) := by decide +kernel
theorem dL_later_90 : decode cL_later 90 = .ok (.lor, 1) := by decide +kernel
theorem dL_later_91 : decode cL_later 91 = .ok (.bipush 48, 2) := by decide +kernel
theorem dL_later_93 : decode cL_later 93 = .ok (.iload 4, 2) := by decide +kernel
theorem dL_later_95 : decode cL_later 95 = .ok (.iadd, 1) := by decide +kernel
theorem dL_later_96 : decode cL_later 96 = .ok (.i2l, 1) := by decide +kernel
theorem dL_later_97 : decode cL_later 97 = .ok (.bipush 8, 2) := by decide +kernel
theorem dL_later_99 : decode cL_later 99 = .ok (.lshl, 1) := by decide +kernel
theorem dL_later_100 : decode cL_later 100 = .ok (.lor, 1) := by decide +kernel
theorem dL_later_101 : decode cL_later 101 = .ok (.ldc2_w 22, 3) := by decide +kernel
theorem dL_later_104 : decode cL_later 104 = .ok (.lor, 1) := by decide +kernel
theorem dL_later_105 : decode cL_later 105 = .ok (.invokevirtual 24, 3) := by decide +kernel
theorem dL_later_108 : decode cL_later 108 = .ok (.pop, 1) := by decide +kernel
theorem dL_later_109 : decode cL_later 109 = .ok (.aload_n 0, 1) := by decide +kernel
theorem dL_later_110 : decode cL_later 110 = .ok (.bipush 97, 2) := by decide +kernel
theorem dL_later_112 : decode cL_later 112 = .ok (.iload 6, 2) := by decide +kernel
theorem dL_later_114 : decode cL_later 114 = .ok (.iadd, 1) := by decide +kernel
theorem dL_later_115 : decode cL_later 115 = .ok (.i2l, 1) := by decide +kernel
theorem dL_later_116 : decode cL_later 116 = .ok (.bipush 8, 2) := by decide +kernel
theorem dL_later_118 : decode cL_later 118 = .ok (.lshl, 1) := by decide +kernel
theorem dL_later_119 : decode cL_later 119 = .ok (.ldc2_w 74, 3) := by decide +kernel
theorem dL_later_122 : decode cL_later 122 = .ok (.lor, 1) := by decide +kernel
theorem dL_later_123 : decode cL_later 123 = .ok (.invokevirtual 24, 3) := by decide +kernel
theorem dL_later_126 : decode cL_later 126 = .ok (.pop, 1) := by decide +kernel
theorem dL_later_127 : decode cL_later 127 = .ok (.aload_n 0, 1) := by decide +kernel
theorem dL_later_128 : decode cL_later 128 = .ok (.iload 5, 2) := by decide +kernel
theorem dL_later_130 : decode cL_later 130 = .ok (.invokestatic 34, 3) := by decide +kernel
theorem dL_later_133 : decode cL_later 133 = .ok (.aload_n 0, 1) := by decide +kernel
theorem dL_later_134 : decode cL_later 134 = .ok (.invokevirtual 76, 3) := by decide +kernel
theorem dL_later_137 : decode cL_later 137 = .ok (.bipush (-6), 2) := by decide +kernel
theorem dL_later_139 : decode cL_later 139 = .ok (.if_icmp .ne 32, 3) := by decide +kernel
theorem dL_later_142 : decode cL_later 142 = .ok (.aload_n 0, 1) := by decide +kernel
theorem dL_later_143 : decode cL_later 143 = .ok (.invokevirtual 40, 3) := by decide +kernel
theorem dL_later_146 : decode cL_later 146 = .ok (.iload_n 2, 1) := by decide +kernel
theorem dL_later_147 : decode cL_later 147 = .ok (.if_icmp .ne 24, 3) := by decide +kernel
theorem dL_later_150 : decode cL_later 150 = .ok (.aload_n 0, 1) := by decide +kernel
theorem dL_later_151 : decode cL_later 151 = .ok (.bipush 8, 2) := by decide +kernel
theorem dL_later_153 : decode cL_later 153 = .ok (.invokevirtual 48, 3) := by decide +kernel
theorem dL_later_156 : decode cL_later 156 = .ok (.iload_n 2, 1) := by decide +kernel
theorem dL_later_157 : decode cL_later 157 = .ok (.iconst 1, 1) := by decide +kernel
theorem dL_later_158 : decode cL_later 158 = .ok (.iadd, 1) := by decide +kernel
theorem dL_later_159 : decode cL_later 159 = .ok (.if_icmp .ne 12, 3) := by decide +kernel
theorem dL_later_162 : decode cL_later 162 = .ok (.aload_n 0, 1) := by decide +kernel
theorem dL_later_163 : decode cL_later 163 = .ok (.bipush 12, 2) := by decide +kernel
theorem dL_later_165 : decode cL_later 165 = .ok (.invokevirtual 48, 3) := by decide +kernel
theorem dL_later_168 : decode cL_later 168 = .ok (.ifCond .eq 5, 3) := by decide +kernel
theorem dL_later_171 : decode cL_later 171 = .ok (.iconst 0, 1) := by decide +kernel
theorem dL_later_172 : decode cL_later 172 = .ok (.ireturn, 1) := by decide +kernel
theorem dL_later_173 : decode cL_later 173 = .ok (.iconst 0, 1) := by decide +kernel
theorem dL_later_174 : decode cL_later 174 = .ok (.istore 8, 2) := by decide +kernel
theorem dL_later_176 : decode cL_later 176 = .ok (.iload 8, 2) := by decide +kernel
theorem dL_later_178 : decode cL_later 178 = .ok (.bipush 10, 2) := by decide +kernel
theorem dL_later_180 : decode cL_later 180 = .ok (.if_icmp .ge 168, 3) := by decide +kernel
theorem dL_later_183 : decode cL_later 183 = .ok (.iload 8, 2) := by decide +kernel
theorem dL_later_185 : decode cL_later 185 = .ok (.iconst 2, 1) := by decide +kernel
theorem dL_later_186 : decode cL_later 186 = .ok (.if_icmp .le 17, 3) := by decide +kernel
theorem dL_later_189 : decode cL_later 189 = .ok (.aload_n 0, 1) := by decide +kernel
theorem dL_later_190 : decode cL_later 190 = .ok (.iload_n 2, 1) := by decide +kernel
theorem dL_later_191 : decode cL_later 191 = .ok (.iload 8, 2) := by decide +kernel
theorem dL_later_193 : decode cL_later 193 = .ok (.iconst 0, 1) := by decide +kernel
theorem dL_later_194 : decode cL_later 194 = .ok (.invokevirtual 79, 3) := by decide +kernel
theorem dL_later_197 : decode cL_later 197 = .ok (.iconst (-1), 1) := by decide +kernel
theorem dL_later_198 : decode cL_later 198 = .ok (.if_icmp .eq 144, 3) := by decide +kernel
theorem dL_later_201 : decode cL_later 201 = .ok (.iconst 0, 1) := by decide +kernel
theorem dL_later_202 : decode cL_later 202 = .ok (.ireturn, 1) := by decide +kernel
theorem dL_later_203 : decode cL_later 203 = .ok (.iconst 0, 1) := by decide +kernel
theorem dL_later_204 : decode cL_later 204 = .ok (.istore 9, 2) := by decide +kernel
theorem dL_later_206 : decode cL_later 206 = .ok (.iload 9, 2) := by decide +kernel
theorem dL_later_208 : decode cL_later 208 = .ok (.iconst 2, 1) := by decide +kernel
theorem dL_later_209 : decode cL_later 209 = .ok (.if_icmp .ge 99, 3) := by decide +kernel
theorem dL_later_212 : decode cL_later 212 = .ok (.aload_n 0, 1) := by decide +kernel
theorem dL_later_213 : decode cL_later 213 = .ok (.iload_n 2, 1) := by decide +kernel
theorem dL_later_214 : decode cL_later 214 = .ok (.iconst 1, 1) := by decide +kernel
theorem dL_later_215 : decode cL_later 215 = .ok (.isub, 1) := by decide +kernel
theorem dL_later_216 : decode cL_later 216 = .ok (.iload 8, 2) := by decide +kernel
theorem dL_later_218 : decode cL_later 218 = .ok (.iload 9, 2) := by decide +kernel
theorem dL_later_220 : decode cL_later 220 = .ok (.invokevirtual 79, 3) := by decide +kernel
theorem dL_later_223 : decode cL_later 223 = .ok (.istore 10, 2) := by decide +kernel
theorem dL_later_225 : decode cL_later 225 = .ok (.iload 8, 2) := by decide +kernel
theorem dL_later_227 : decode cL_later 227 = .ok (.iload_n 3, 1) := by decide +kernel
theorem dL_later_228 : decode cL_later 228 = .ok (.if_icmp .ne 40, 3) := by decide +kernel
theorem dL_later_231 : decode cL_later 231 = .ok (.iload 7, 2) := by decide +kernel
theorem dL_later_233 : decode cL_later 233 = .ok (.ifCond .eq 28, 3) := by decide +kernel
theorem dL_later_236 : decode cL_later 236 = .ok (.iload 10, 2) := by decide +kernel
theorem dL_later_238 : decode cL_later 238 = .ok (.iload 4, 2) := by decide +kernel
theorem dL_later_240 : decode cL_later 240 = .ok (.imul, 1) := by decide +kernel
theorem dL_later_241 : decode cL_later 241 = .ok (.sipush 255, 3) := by decide +kernel
theorem dL_later_244 : decode cL_later 244 = .ok (.if_icmp .le 9, 3) := by decide +kernel
theorem dL_later_247 : decode cL_later 247 = .ok (.sipush 255, 3) := by decide +kernel
theorem dL_later_250 : decode cL_later 250 = .ok (.goto 16, 3) := by decide +kernel
theorem dL_later_253 : decode cL_later 253 = .ok (.iload 10, 2) := by decide +kernel
theorem dL_later_255 : decode cL_later 255 = .ok (.iload 4, 2) := by decide +kernel
theorem dL_later_257 : decode cL_later 257 = .ok (.imul, 1) := by decide +kernel
theorem dL_later_258 : decode cL_later 258 = .ok (.goto 8, 3) := by decide +kernel
theorem dL_later_261 : decode cL_later 261 = .ok (.iload 10, 2) := by decide +kernel
theorem dL_later_263 : decode cL_later 263 = .ok (.iload 4, 2) := by decide +kernel
theorem dL_later_265 : decode cL_later 265 = .ok (.idiv, 1) := by decide +kernel
theorem dL_later_266 : decode cL_later 266 = .ok (.istore 10, 2) := by decide +kernel
theorem dL_later_268 : decode cL_later 268 = .ok (.iload 8, 2) := by decide +kernel
theorem dL_later_270 : decode cL_later 270 = .ok (.iload 6, 2) := by decide +kernel
theorem dL_later_272 : decode cL_later 272 = .ok (.if_icmp .ne 14, 3) := by decide +kernel
theorem dL_later_275 : decode cL_later 275 = .ok (.iload 10, 2) := by decide +kernel
theorem dL_later_277 : decode cL_later 277 = .ok (.iload 5, 2) := by decide +kernel
theorem dL_later_279 : decode cL_later 279 = .ok (.if_icmp .le 7, 3) := by decide +kernel
theorem dL_later_282 : decode cL_later 282 = .ok (.iload 5, 2) := by decide +kernel
theorem dL_later_284 : decode cL_later 284 = .ok (.istore 10, 2) := by decide +kernel
theorem dL_later_286 : decode cL_later 286 = .ok (.aload_n 0, 1) := by decide +kernel
theorem dL_later_287 : decode cL_later 287 = .ok (.iload_n 2, 1) := by decide +kernel
theorem dL_later_288 : decode cL_later 288 = .ok (.iload 8, 2) := by decide +kernel
theorem dL_later_290 : decode cL_later 290 = .ok (.iload 9, 2) := by decide +kernel
theorem dL_later_292 : decode cL_later 292 = .ok (.invokevirtual 79, 3) := by decide +kernel
theorem dL_later_295 : decode cL_later 295 = .ok (.iload 10, 2) := by decide +kernel
theorem dL_later_297 : decode cL_later 297 = .ok (.if_icmp .eq 5, 3) := by decide +kernel
theorem dL_later_300 : decode cL_later 300 = .ok (.iconst 0, 1) := by decide +kernel
theorem dL_later_301 : decode cL_later 301 = .ok (.ireturn, 1) := by decide +kernel
theorem dL_later_302 : decode cL_later 302 = .ok (.iinc 9 1, 3) := by decide +kernel
theorem dL_later_305 : decode cL_later 305 = .ok (.goto (-99), 3) := by decide +kernel
theorem dL_later_308 : decode cL_later 308 = .ok (.aload_n 0, 1) := by decide +kernel
theorem dL_later_309 : decode cL_later 309 = .ok (.iload_n 2, 1) := by decide +kernel
theorem dL_later_310 : decode cL_later 310 = .ok (.iload 8, 2) := by decide +kernel
theorem dL_later_312 : decode cL_later 312 = .ok (.iconst 2, 1) := by decide +kernel
theorem dL_later_313 : decode cL_later 313 = .ok (.invokevirtual 79, 3) := by decide +kernel
theorem dL_later_316 : decode cL_later 316 = .ok (.iload 8, 2) := by decide +kernel
theorem dL_later_318 : decode cL_later 318 = .ok (.if_icmp .ne 22, 3) := by decide +kernel
theorem dL_later_321 : decode cL_later 321 = .ok (.aload_n 0, 1) := by decide +kernel
theorem dL_later_322 : decode cL_later 322 = .ok (.iload_n 2, 1) := by decide +kernel
theorem dL_later_323 : decode cL_later 323 = .ok (.iload 8, 2) := by decide +kernel
theorem dL_later_325 : decode cL_later 325 = .ok (.iconst 1, 1) := by decide +kernel
theorem dL_later_326 : decode cL_later 326 = .ok (.invokevirtual 79, 3) := by decide +kernel
theorem dL_later_329 : decode cL_later 329 = .ok (.aload_n 0, 1) := by decide +kernel
theorem dL_later_330 : decode cL_later 330 = .ok (.iload_n 2, 1) := by decide +kernel
theorem dL_later_331 : decode cL_later 331 = .ok (.iload 8, 2) := by decide +kernel
theorem dL_later_333 : decode cL_later 333 = .ok (.iconst 0, 1) := by decide +kernel
theorem dL_later_334 : decode cL_later 334 = .ok (.invokevirtual 79, 3) := by decide +kernel
theorem dL_later_337 : decode cL_later 337 = .ok (.if_icmp .le 5, 3) := by decide +kernel
theorem dL_later_340 : decode cL_later 340 = .ok (.iconst 0, 1) := by decide +kernel
theorem dL_later_341 : decode cL_later 341 = .ok (.ireturn, 1) := by decide +kernel
theorem dL_later_342 : decode cL_later 342 = .ok (.iinc 8 1, 3) := by decide +kernel
theorem dL_later_345 : decode cL_later 345 = .ok (.goto (-169), 3) := by decide +kernel
theorem dL_later_348 : decode cL_later 348 = .ok (.iconst 1, 1) := by decide +kernel
theorem dL_later_349 : decode cL_later 349 = .ok (.ireturn, 1) := by decide +kernel
theorem dL_cells_0 : decode cL_cells 0 = .ok (.iconst 0, 1) := by decide +kernel
theorem dL_cells_1 : decode cL_cells 1 = .ok (.istore_n 1, 1) := by decide +kernel
theorem dL_cells_2 : decode cL_cells 2 = .ok (.iconst 0, 1) := by decide +kernel
theorem dL_cells_3 : decode cL_cells 3 = .ok (.istore_n 2, 1) := by decide +kernel
theorem dL_cells_4 : decode cL_cells 4 = .ok (.iload_n 2, 1) := by decide +kernel
theorem dL_cells_5 : decode cL_cells 5 = .ok (.bipush 96, 2) := by decide +kernel
theorem dL_cells_7 : decode cL_cells 7 = .ok (.if_icmp .ge 27, 3) := by decide +kernel
theorem dL_cells_10 : decode cL_cells 10 = .ok (.iload_n 1, 1) := by decide +kernel
theorem dL_cells_11 : decode cL_cells 11 = .ok (.bipush 31, 2) := by decide +kernel
theorem dL_cells_13 : decode cL_cells 13 = .ok (.imul, 1) := by decide +kernel
theorem dL_cells_14 : decode cL_cells 14 = .ok (.aload_n 0, 1) := by decide +kernel
theorem dL_cells_15 : decode cL_cells 15 = .ok (.iload_n 2, 1) := by decide +kernel
theorem dL_cells_16 : decode cL_cells 16 = .ok (.bipush 48, 2) := by decide +kernel
theorem dL_cells_18 : decode cL_cells 18 = .ok (.idiv, 1) := by decide +kernel
theorem dL_cells_19 : decode cL_cells 19 = .ok (.iload_n 2, 1) := by decide +kernel
theorem dL_cells_20 : decode cL_cells 20 = .ok (.bipush 48, 2) := by decide +kernel
theorem dL_cells_22 : decode cL_cells 22 = .ok (.irem, 1) := by decide +kernel
theorem dL_cells_23 : decode cL_cells 23 = .ok (.invokevirtual 83, 3) := by decide +kernel
theorem dL_cells_26 : decode cL_cells 26 = .ok (.iadd, 1) := by decide +kernel
theorem dL_cells_27 : decode cL_cells 27 = .ok (.istore_n 1, 1) := by decide +kernel
theorem dL_cells_28 : decode cL_cells 28 = .ok (.iinc 2 1, 3) := by decide +kernel
theorem dL_cells_31 : decode cL_cells 31 = .ok (.goto (-27), 3) := by decide +kernel
theorem dL_cells_34 : decode cL_cells 34 = .ok (.iload_n 1, 1) := by decide +kernel
theorem dL_cells_35 : decode cL_cells 35 = .ok (.ireturn, 1) := by decide +kernel
theorem dL_act_0 : decode cL_act 0 = .ok (.iload_n 2, 1) := by decide +kernel
theorem dL_act_1 : decode cL_act 1 = .ok (.iconst 3, 1) := by decide +kernel
theorem dL_act_2 : decode cL_act 2 = .ok (.invokestatic 30, 3) := by decide +kernel
theorem dL_act_5 : decode cL_act 5 = .ok (.istore 4, 2) := by decide +kernel
theorem dL_act_7 : decode cL_act 7 = .ok (.aload_n 0, 1) := by decide +kernel
theorem dL_act_8 : decode cL_act 8 = .ok (.iconst 2, 1) := by decide +kernel
theorem dL_act_9 : decode cL_act 9 = .ok (.invokevirtual 48, 3) := by decide +kernel
theorem dL_act_12 : decode cL_act 12 = .ok (.istore 5, 2) := by decide +kernel
theorem dL_act_14 : decode cL_act 14 = .ok (.aload_n 0, 1) := by decide +kernel
theorem dL_act_15 : decode cL_act 15 = .ok (.iload 5, 2) := by decide +kernel
theorem dL_act_17 : decode cL_act 17 = .ok (.iload 4, 2) := by decide +kernel
theorem dL_act_19 : decode cL_act 19 = .ok (.iconst 0, 1) := by decide +kernel
theorem dL_act_20 : decode cL_act 20 = .ok (.invokevirtual 79, 3) := by decide +kernel
theorem dL_act_23 : decode cL_act 23 = .ok (.istore 6, 2) := by decide +kernel
theorem dL_act_25 : decode cL_act 25 = .ok (.aload_n 0, 1) := by decide +kernel
theorem dL_act_26 : decode cL_act 26 = .ok (.bipush 10, 2) := by decide +kernel
theorem dL_act_28 : decode cL_act 28 = .ok (.invokevirtual 48, 3) := by decide +kernel
theorem dL_act_31 : decode cL_act 31 = .ok (.istore 7, 2) := by decide +kernel
theorem dL_act_33 : decode cL_act 33 = .ok (.iload_n 1, 1) := by decide +kernel
theorem dL_act_34 : decode cL_act 34 = .ok (.bipush 8, 2) := by decide +kernel
theorem dL_act_36 : decode cL_act 36 = .ok (.invokestatic 30, 3) := by decide +kernel
theorem dL_act_39 : decode cL_act 39 = .ok (.tableswitch 397 0 3 #[29, 127, 314, 337], 29) := by decide +kernel
theorem dL_act_68 : decode cL_act 68 = .ok (.aload_n 0, 1) := by decide +kernel
theorem dL_act_69 : decode cL_act 69 = .ok (.iconst 1, 1) := by decide +kernel
theorem dL_act_70 : decode cL_act 70 = .ok (.invokevirtual 48, 3) := by decide +kernel
theorem dL_act_73 : decode cL_act 73 = .ok (.istore 8, 2) := by decide +kernel
theorem dL_act_75 : decode cL_act 75 = .ok (.aload_n 0, 1) := by decide +kernel
theorem dL_act_76 : decode cL_act 76 = .ok (.iconst 3, 1) := by decide +kernel
theorem dL_act_77 : decode cL_act 77 = .ok (.invokevirtual 48, 3) := by decide +kernel
theorem dL_act_80 : decode cL_act 80 = .ok (.istore 9, 2) := by decide +kernel
theorem dL_act_82 : decode cL_act 82 = .ok (.aload_n 0, 1) := by decide +kernel
theorem dL_act_83 : decode cL_act 83 = .ok (.invokevirtual 85, 3) := by decide +kernel
theorem dL_act_86 : decode cL_act 86 = .ok (.istore 10, 2) := by decide +kernel
theorem dL_act_88 : decode cL_act 88 = .ok (.iconst 3, 1) := by decide +kernel
theorem dL_act_89 : decode cL_act 89 = .ok (.iconst 3, 1) := by decide +kernel
theorem dL_act_90 : decode cL_act 90 = .ok (.aload_n 0, 1) := by decide +kernel
theorem dL_act_91 : decode cL_act 91 = .ok (.bipush 7, 2) := by decide +kernel
theorem dL_act_93 : decode cL_act 93 = .ok (.invokevirtual 48, 3) := by decide +kernel
theorem dL_act_96 : decode cL_act 96 = .ok (.imul, 1) := by decide +kernel
theorem dL_act_97 : decode cL_act 97 = .ok (.iadd, 1) := by decide +kernel
theorem dL_act_98 : decode cL_act 98 = .ok (.istore 11, 2) := by decide +kernel
theorem dL_act_100 : decode cL_act 100 = .ok (.iload 10, 2) := by decide +kernel
theorem dL_act_102 : decode cL_act 102 = .ok (.iload 11, 2) := by decide +kernel
theorem dL_act_104 : decode cL_act 104 = .ok (.if_icmp .ne 60, 3) := by decide +kernel
theorem dL_act_107 : decode cL_act 107 = .ok (.aload_n 0, 1) := by decide +kernel
theorem dL_act_108 : decode cL_act 108 = .ok (.bipush 10, 2) := by decide +kernel
theorem dL_act_110 : decode cL_act 110 = .ok (.invokevirtual 48, 3) := by decide +kernel
theorem dL_act_113 : decode cL_act 113 = .ok (.iload 7, 2) := by decide +kernel
theorem dL_act_115 : decode cL_act 115 = .ok (.iload 11, 2) := by decide +kernel
theorem dL_act_117 : decode cL_act 117 = .ok (.iadd, 1) := by decide +kernel
theorem dL_act_118 : decode cL_act 118 = .ok (.if_icmp .ne 46, 3) := by decide +kernel
theorem dL_act_121 : decode cL_act 121 = .ok (.aload_n 0, 1) := by decide +kernel
theorem dL_act_122 : decode cL_act 122 = .ok (.iconst 1, 1) := by decide +kernel
theorem dL_act_123 : decode cL_act 123 = .ok (.invokevirtual 48, 3) := by decide +kernel
theorem dL_act_126 : decode cL_act 126 = .ok (.iconst 1, 1) := by decide +kernel
theorem dL_act_127 : decode cL_act 127 = .ok (.iload 8, 2) := by decide +kernel
theorem dL_act_129 : decode cL_act 129 = .ok (.isub, 1) := by decide +kernel
theorem dL_act_130 : decode cL_act 130 = .ok (.if_icmp .ne 34, 3) := by decide +kernel
theorem dL_act_133 : decode cL_act 133 = .ok (.aload_n 0, 1) := by decide +kernel
theorem dL_act_134 : decode cL_act 134 = .ok (.iconst 3, 1) := by decide +kernel
theorem dL_act_135 : decode cL_act 135 = .ok (.invokevirtual 48, 3) := by decide +kernel
theorem dL_act_138 : decode cL_act 138 = .ok (.iload 9, 2) := by decide +kernel
theorem dL_act_140 : decode cL_act 140 = .ok (.iconst 1, 1) := by decide +kernel
theorem dL_act_141 : decode cL_act 141 = .ok (.iadd, 1) := by decide +kernel
theorem dL_act_142 : decode cL_act 142 = .ok (.sipush 200, 3) := by decide +kernel
theorem dL_act_145 : decode cL_act 145 = .ok (.irem, 1) := by decide +kernel
theorem dL_act_146 : decode cL_act 146 = .ok (.if_icmp .ne 18, 3) := by decide +kernel
theorem dL_act_149 : decode cL_act 149 = .ok (.aload_n 0, 1) := by decide +kernel
theorem dL_act_150 : decode cL_act 150 = .ok (.iload 8, 2) := by decide +kernel
theorem dL_act_152 : decode cL_act 152 = .ok (.iconst 2, 1) := by decide +kernel
theorem dL_act_153 : decode cL_act 153 = .ok (.invokevirtual 88, 3) := by decide +kernel
theorem dL_act_156 : decode cL_act 156 = .ok (.iconst 1, 1) := by decide +kernel
theorem dL_act_157 : decode cL_act 157 = .ok (.if_icmp .ne 7, 3) := by decide +kernel
theorem dL_act_160 : decode cL_act 160 = .ok (.iconst 1, 1) := by decide +kernel
theorem dL_act_161 : decode cL_act 161 = .ok (.goto 4, 3) := by decide +kernel
theorem dL_act_164 : decode cL_act 164 = .ok (.iconst 0, 1) := by decide +kernel
theorem dL_act_165 : decode cL_act 165 = .ok (.ireturn, 1) := by decide +kernel
theorem dL_act_166 : decode cL_act 166 = .ok (.iload 5, 2) := by decide +kernel
theorem dL_act_168 : decode cL_act 168 = .ok (.iconst 1, 1) := by decide +kernel
theorem dL_act_169 : decode cL_act 169 = .ok (.iadd, 1) := by decide +kernel
theorem dL_act_170 : decode cL_act 170 = .ok (.istore 8, 2) := by decide +kernel
theorem dL_act_172 : decode cL_act 172 = .ok (.iload 8, 2) := by decide +kernel
theorem dL_act_174 : decode cL_act 174 = .ok (.aload_n 0, 1) := by decide +kernel
theorem dL_act_175 : decode cL_act 175 = .ok (.bipush 8, 2) := by decide +kernel
theorem dL_act_177 : decode cL_act 177 = .ok (.invokevirtual 48, 3) := by decide +kernel
theorem dL_act_180 : decode cL_act 180 = .ok (.if_icmp .ge 11, 3) := by decide +kernel
theorem dL_act_183 : decode cL_act 183 = .ok (.iload_n 3, 1) := by decide +kernel
theorem dL_act_184 : decode cL_act 184 = .ok (.iconst 3, 1) := by decide +kernel
theorem dL_act_185 : decode cL_act 185 = .ok (.invokestatic 30, 3) := by decide +kernel
theorem dL_act_188 : decode cL_act 188 = .ok (.ifCond .le 31, 3) := by decide +kernel
theorem dL_act_191 : decode cL_act 191 = .ok (.aload_n 0, 1) := by decide +kernel
theorem dL_act_192 : decode cL_act 192 = .ok (.iload 5, 2) := by decide +kernel
theorem dL_act_194 : decode cL_act 194 = .ok (.invokevirtual 91, 3) := by decide +kernel
theorem dL_act_197 : decode cL_act 197 = .ok (.bipush (-2), 2) := by decide +kernel
theorem dL_act_199 : decode cL_act 199 = .ok (.if_icmp .ne 18, 3) := by decide +kernel
theorem dL_act_202 : decode cL_act 202 = .ok (.aload_n 0, 1) := by decide +kernel
theorem dL_act_203 : decode cL_act 203 = .ok (.bipush 10, 2) := by decide +kernel
theorem dL_act_205 : decode cL_act 205 = .ok (.invokevirtual 48, 3) := by decide +kernel
theorem dL_act_208 : decode cL_act 208 = .ok (.iload 7, 2) := by decide +kernel
theorem dL_act_210 : decode cL_act 210 = .ok (.if_icmp .ne 7, 3) := by decide +kernel
theorem dL_act_213 : decode cL_act 213 = .ok (.iconst 1, 1) := by decide +kernel
theorem dL_act_214 : decode cL_act 214 = .ok (.goto 4, 3) := by decide +kernel
theorem dL_act_217 : decode cL_act 217 = .ok (.iconst 0, 1) := by decide +kernel
theorem dL_act_218 : decode cL_act 218 = .ok (.ireturn, 1) := by decide +kernel
theorem dL_act_219 : decode cL_act 219 = .ok (.iconst 3, 1) := by decide +kernel
theorem dL_act_220 : decode cL_act 220 = .ok (.newarray .int, 2) := by decide +kernel
theorem dL_act_222 : decode cL_act 222 = .ok (.astore 9, 2) := by decide +kernel
theorem dL_act_224 : decode cL_act 224 = .ok (.iconst 0, 1) := by decide +kernel
theorem dL_act_225 : decode cL_act 225 = .ok (.istore 10, 2) := by decide +kernel
theorem dL_act_227 : decode cL_act 227 = .ok (.iload 10, 2) := by decide +kernel
theorem dL_act_229 : decode cL_act 229 = .ok (.iconst 3, 1) := by decide +kernel
theorem dL_act_230 : decode cL_act 230 = .ok (.if_icmp .ge 22, 3) := by decide +kernel
theorem dL_act_233 : decode cL_act 233 = .ok (.aload 9, 2) := by decide +kernel
theorem dL_act_235 : decode cL_act 235 = .ok (.iload 10, 2) := by decide +kernel
theorem dL_act_237 : decode cL_act 237 = .ok (.aload_n 0, 1) := by decide +kernel
theorem dL_act_238 : decode cL_act 238 = .ok (.iload 8, 2) := by decide +kernel
theorem dL_act_240 : decode cL_act 240 = .ok (.iload 10, 2) := by decide +kernel
theorem dL_act_242 : decode cL_act 242 = .ok (.invokevirtual 94, 3) := by decide +kernel
theorem dL_act_245 : decode cL_act 245 = .ok (.iastore, 1) := by decide +kernel
theorem dL_act_246 : decode cL_act 246 = .ok (.iinc 10 1, 3) := by decide +kernel
theorem dL_act_249 : decode cL_act 249 = .ok (.goto (-22), 3) := by decide +kernel
theorem dL_act_252 : decode cL_act 252 = .ok (.aload_n 0, 1) := by decide +kernel
theorem dL_act_253 : decode cL_act 253 = .ok (.iload 8, 2) := by decide +kernel
theorem dL_act_255 : decode cL_act 255 = .ok (.invokevirtual 91, 3) := by decide +kernel
theorem dL_act_258 : decode cL_act 258 = .ok (.istore 10, 2) := by decide +kernel
theorem dL_act_260 : decode cL_act 260 = .ok (.iconst 0, 1) := by decide +kernel
theorem dL_act_261 : decode cL_act 261 = .ok (.istore 11, 2) := by decide +kernel
theorem dL_act_263 : decode cL_act 263 = .ok (.iload 11, 2) := by decide +kernel
theorem dL_act_265 : decode cL_act 265 = .ok (.iconst 3, 1) := by decide +kernel
theorem dL_act_266 : decode cL_act 266 = .ok (.if_icmp .ge 42, 3) := by decide +kernel
theorem dL_act_269 : decode cL_act 269 = .ok (.aload_n 0, 1) := by decide +kernel
theorem dL_act_270 : decode cL_act 270 = .ok (.iload 11, 2) := by decide +kernel
theorem dL_act_272 : decode cL_act 272 = .ok (.invokevirtual 97, 3) := by decide +kernel
theorem dL_act_275 : decode cL_act 275 = .ok (.aload 9, 2) := by decide +kernel
theorem dL_act_277 : decode cL_act 277 = .ok (.iload 11, 2) := by decide +kernel
theorem dL_act_279 : decode cL_act 279 = .ok (.iaload, 1) := by decide +kernel
theorem dL_act_280 : decode cL_act 280 = .ok (.if_icmp .ne 20, 3) := by decide +kernel
theorem dL_act_283 : decode cL_act 283 = .ok (.aload 9, 2) := by decide +kernel
theorem dL_act_285 : decode cL_act 285 = .ok (.iload 11, 2) := by decide +kernel
theorem dL_act_287 : decode cL_act 287 = .ok (.iaload, 1) := by decide +kernel
theorem dL_act_288 : decode cL_act 288 = .ok (.aload_n 0, 1) := by decide +kernel
theorem dL_act_289 : decode cL_act 289 = .ok (.iload 8, 2) := by decide +kernel
theorem dL_act_291 : decode cL_act 291 = .ok (.iload 11, 2) := by decide +kernel
theorem dL_act_293 : decode cL_act 293 = .ok (.iconst 0, 1) := by decide +kernel
theorem dL_act_294 : decode cL_act 294 = .ok (.invokevirtual 79, 3) := by decide +kernel
theorem dL_act_297 : decode cL_act 297 = .ok (.if_icmp .le 5, 3) := by decide +kernel
theorem dL_act_300 : decode cL_act 300 = .ok (.iconst 0, 1) := by decide +kernel
theorem dL_act_301 : decode cL_act 301 = .ok (.ireturn, 1) := by decide +kernel
theorem dL_act_302 : decode cL_act 302 = .ok (.iinc 11 1, 3) := by decide +kernel
theorem dL_act_305 : decode cL_act 305 = .ok (.goto (-42), 3) := by decide +kernel
theorem dL_act_308 : decode cL_act 308 = .ok (.aload_n 0, 1) := by decide +kernel
theorem dL_act_309 : decode cL_act 309 = .ok (.iconst 2, 1) := by decide +kernel
theorem dL_act_310 : decode cL_act 310 = .ok (.invokevirtual 48, 3) := by decide +kernel
theorem dL_act_313 : decode cL_act 313 = .ok (.iload 8, 2) := by decide +kernel
theorem dL_act_315 : decode cL_act 315 = .ok (.if_icmp .ne 36, 3) := by decide +kernel
theorem dL_act_318 : decode cL_act 318 = .ok (.iload 10, 2) := by decide +kernel
theorem dL_act_320 : decode cL_act 320 = .ok (.iconst 3, 1) := by decide +kernel
theorem dL_act_321 : decode cL_act 321 = .ok (.iconst 3, 1) := by decide +kernel
theorem dL_act_322 : decode cL_act 322 = .ok (.aload_n 0, 1) := by decide +kernel
theorem dL_act_323 : decode cL_act 323 = .ok (.bipush 7, 2) := by decide +kernel
theorem dL_act_325 : decode cL_act 325 = .ok (.invokevirtual 48, 3) := by decide +kernel
theorem dL_act_328 : decode cL_act 328 = .ok (.imul, 1) := by decide +kernel
theorem dL_act_329 : decode cL_act 329 = .ok (.iadd, 1) := by decide +kernel
theorem dL_act_330 : decode cL_act 330 = .ok (.if_icmp .ne 21, 3) := by decide +kernel
theorem dL_act_333 : decode cL_act 333 = .ok (.aload_n 0, 1) := by decide +kernel
theorem dL_act_334 : decode cL_act 334 = .ok (.bipush 10, 2) := by decide +kernel
theorem dL_act_336 : decode cL_act 336 = .ok (.invokevirtual 48, 3) := by decide +kernel
theorem dL_act_339 : decode cL_act 339 = .ok (.iload 7, 2) := by decide +kernel
theorem dL_act_341 : decode cL_act 341 = .ok (.iload 10, 2) := by decide +kernel
theorem dL_act_343 : decode cL_act 343 = .ok (.iadd, 1) := by decide +kernel
theorem dL_act_344 : decode cL_act 344 = .ok (.if_icmp .ne 7, 3) := by decide +kernel
theorem dL_act_347 : decode cL_act 347 = .ok (.iconst 1, 1) := by decide +kernel
theorem dL_act_348 : decode cL_act 348 = .ok (.goto 4, 3) := by decide +kernel
theorem dL_act_351 : decode cL_act 351 = .ok (.iconst 0, 1) := by decide +kernel
theorem dL_act_352 : decode cL_act 352 = .ok (.ireturn, 1) := by decide +kernel
theorem dL_act_353 : decode cL_act 353 = .ok (.aload_n 0, 1) := by decide +kernel
theorem dL_act_354 : decode cL_act 354 = .ok (.iload 4, 2) := by decide +kernel
theorem dL_act_356 : decode cL_act 356 = .ok (.iload_n 3, 1) := by decide +kernel
theorem dL_act_357 : decode cL_act 357 = .ok (.iload 6, 2) := by decide +kernel
theorem dL_act_359 : decode cL_act 359 = .ok (.iconst 1, 1) := by decide +kernel
theorem dL_act_360 : decode cL_act 360 = .ok (.iadd, 1) := by decide +kernel
theorem dL_act_361 : decode cL_act 361 = .ok (.invokestatic 30, 3) := by decide +kernel
theorem dL_act_364 : decode cL_act 364 = .ok (.iload_n 2, 1) := by decide +kernel
theorem dL_act_365 : decode cL_act 365 = .ok (.iconst 4, 1) := by decide +kernel
theorem dL_act_366 : decode cL_act 366 = .ok (.ishr, 1) := by decide +kernel
theorem dL_act_367 : decode cL_act 367 = .ok (.bipush 14, 2) := by decide +kernel
theorem dL_act_369 : decode cL_act 369 = .ok (.invokestatic 30, 3) := by decide +kernel
theorem dL_act_372 : decode cL_act 372 = .ok (.invokestatic 100, 3) := by decide +kernel
theorem dL_act_375 : decode cL_act 375 = .ok (.ireturn, 1) := by decide +kernel
theorem dL_act_376 : decode cL_act 376 = .ok (.aload_n 0, 1) := by decide +kernel
theorem dL_act_377 : decode cL_act 377 = .ok (.iconst 1, 1) := by decide +kernel
theorem dL_act_378 : decode cL_act 378 = .ok (.invokevirtual 48, 3) := by decide +kernel
theorem dL_act_381 : decode cL_act 381 = .ok (.istore 8, 2) := by decide +kernel
theorem dL_act_383 : decode cL_act 383 = .ok (.aload_n 0, 1) := by decide +kernel
theorem dL_act_384 : decode cL_act 384 = .ok (.iconst 3, 1) := by decide +kernel
theorem dL_act_385 : decode cL_act 385 = .ok (.invokevirtual 48, 3) := by decide +kernel
theorem dL_act_388 : decode cL_act 388 = .ok (.istore 9, 2) := by decide +kernel
theorem dL_act_390 : decode cL_act 390 = .ok (.aload_n 0, 1) := by decide +kernel
theorem dL_act_391 : decode cL_act 391 = .ok (.invokevirtual 103, 3) := by decide +kernel
theorem dL_act_394 : decode cL_act 394 = .ok (.iload 8, 2) := by decide +kernel
theorem dL_act_396 : decode cL_act 396 = .ok (.if_icmp .ne 38, 3) := by decide +kernel
theorem dL_act_399 : decode cL_act 399 = .ok (.aload_n 0, 1) := by decide +kernel
theorem dL_act_400 : decode cL_act 400 = .ok (.iconst 3, 1) := by decide +kernel
theorem dL_act_401 : decode cL_act 401 = .ok (.invokevirtual 48, 3) := by decide +kernel
theorem dL_act_404 : decode cL_act 404 = .ok (.iload 9, 2) := by decide +kernel
theorem dL_act_406 : decode cL_act 406 = .ok (.if_icmp .ne 28, 3) := by decide +kernel
theorem dL_act_409 : decode cL_act 409 = .ok (.aload_n 0, 1) := by decide +kernel
theorem dL_act_410 : decode cL_act 410 = .ok (.iconst 2, 1) := by decide +kernel
theorem dL_act_411 : decode cL_act 411 = .ok (.invokevirtual 48, 3) := by decide +kernel
theorem dL_act_414 : decode cL_act 414 = .ok (.iload 5, 2) := by decide +kernel
theorem dL_act_416 : decode cL_act 416 = .ok (.if_icmp .ne 18, 3) := by decide +kernel
theorem dL_act_419 : decode cL_act 419 = .ok (.aload_n 0, 1) := by decide +kernel
theorem dL_act_420 : decode cL_act 420 = .ok (.bipush 10, 2) := by decide +kernel
theorem dL_act_422 : decode cL_act 422 = .ok (.invokevirtual 48, 3) := by decide +kernel
theorem dL_act_425 : decode cL_act 425 = .ok (.iload 7, 2) := by decide +kernel
theorem dL_act_427 : decode cL_act 427 = .ok (.if_icmp .ne 7, 3) := by decide +kernel
theorem dL_act_430 : decode cL_act 430 = .ok (.iconst 1, 1) := by decide +kernel
theorem dL_act_431 : decode cL_act 431 = .ok (.goto 4, 3) := by decide +kernel
theorem dL_act_434 : decode cL_act 434 = .ok (.iconst 0, 1) := by decide +kernel
theorem dL_act_435 : decode cL_act 435 = .ok (.ireturn, 1) := by decide +kernel
theorem dL_act_436 : decode cL_act 436 = .ok (.iload_n 3, 1) := by decide +kernel
theorem dL_act_437 : decode cL_act 437 = .ok (.iload 6, 2) := by decide +kernel
theorem dL_act_439 : decode cL_act 439 = .ok (.iconst 1, 1) := by decide +kernel
theorem dL_act_440 : decode cL_act 440 = .ok (.iadd, 1) := by decide +kernel
theorem dL_act_441 : decode cL_act 441 = .ok (.invokestatic 30, 3) := by decide +kernel
theorem dL_act_444 : decode cL_act 444 = .ok (.istore 8, 2) := by decide +kernel
theorem dL_act_446 : decode cL_act 446 = .ok (.aload_n 0, 1) := by decide +kernel
theorem dL_act_447 : decode cL_act 447 = .ok (.iload 4, 2) := by decide +kernel
theorem dL_act_449 : decode cL_act 449 = .ok (.invokevirtual 97, 3) := by decide +kernel
theorem dL_act_452 : decode cL_act 452 = .ok (.istore 9, 2) := by decide +kernel
theorem dL_act_454 : decode cL_act 454 = .ok (.aload_n 0, 1) := by decide +kernel
theorem dL_act_455 : decode cL_act 455 = .ok (.iconst 4, 1) := by decide +kernel
theorem dL_act_456 : decode cL_act 456 = .ok (.invokevirtual 48, 3) := by decide +kernel
theorem dL_act_459 : decode cL_act 459 = .ok (.istore 10, 2) := by decide +kernel
theorem dL_act_461 : decode cL_act 461 = .ok (.bipush 48, 2) := by decide +kernel
theorem dL_act_463 : decode cL_act 463 = .ok (.iconst 3, 1) := by decide +kernel
theorem dL_act_464 : decode cL_act 464 = .ok (.iload 10, 2) := by decide +kernel
theorem dL_act_466 : decode cL_act 466 = .ok (.imul, 1) := by decide +kernel
theorem dL_act_467 : decode cL_act 467 = .ok (.isub, 1) := by decide +kernel
theorem dL_act_468 : decode cL_act 468 = .ok (.istore 11, 2) := by decide +kernel
theorem dL_act_470 : decode cL_act 470 = .ok (.aload_n 0, 1) := by decide +kernel
theorem dL_act_471 : decode cL_act 471 = .ok (.iconst 1, 1) := by decide +kernel
theorem dL_act_472 : decode cL_act 472 = .ok (.invokevirtual 48, 3) := by decide +kernel
theorem dL_act_475 : decode cL_act 475 = .ok (.istore 12, 2) := by decide +kernel
theorem dL_act_477 : decode cL_act 477 = .ok (.aload_n 0, 1) := by decide +kernel
theorem dL_act_478 : decode cL_act 478 = .ok (.iconst 3, 1) := by decide +kernel
theorem dL_act_479 : decode cL_act 479 = .ok (.invokevirtual 48, 3) := by decide +kernel
theorem dL_act_482 : decode cL_act 482 = .ok (.istore 13, 2) := by decide +kernel
theorem dL_act_484 : decode cL_act 484 = .ok (.aload_n 0, 1) := by decide +kernel
theorem dL_act_485 : decode cL_act 485 = .ok (.iload 4, 2) := by decide +kernel
theorem dL_act_487 : decode cL_act 487 = .ok (.iload 8, 2) := by decide +kernel
theorem dL_act_489 : decode cL_act 489 = .ok (.invokevirtual 106, 3) := by decide +kernel
theorem dL_act_492 : decode cL_act 492 = .ok (.istore 14, 2) := by decide +kernel
theorem dL_act_494 : decode cL_act 494 = .ok (.aload_n 0, 1) := by decide +kernel
theorem dL_act_495 : decode cL_act 495 = .ok (.iload 4, 2) := by decide +kernel
theorem dL_act_497 : decode cL_act 497 = .ok (.invokevirtual 97, 3) := by decide +kernel
theorem dL_act_500 : decode cL_act 500 = .ok (.iload 8, 2) := by decide +kernel
theorem dL_act_502 : decode cL_act 502 = .ok (.if_icmp .ne 17, 3) := by decide +kernel
theorem dL_act_505 : decode cL_act 505 = .ok (.aload_n 0, 1) := by decide +kernel
theorem dL_act_506 : decode cL_act 506 = .ok (.bipush 10, 2) := by decide +kernel
theorem dL_act_508 : decode cL_act 508 = .ok (.invokevirtual 48, 3) := by decide +kernel
theorem dL_act_511 : decode cL_act 511 = .ok (.iload 7, 2) := by decide +kernel
theorem dL_act_513 : decode cL_act 513 = .ok (.iload 14, 2) := by decide +kernel
theorem dL_act_515 : decode cL_act 515 = .ok (.iadd, 1) := by decide +kernel
theorem dL_act_516 : decode cL_act 516 = .ok (.if_icmp .eq 5, 3) := by decide +kernel
theorem dL_act_519 : decode cL_act 519 = .ok (.iconst 0, 1) := by decide +kernel
theorem dL_act_520 : decode cL_act 520 = .ok (.ireturn, 1) := by decide +kernel
theorem dL_act_521 : decode cL_act 521 = .ok (.iload 8, 2) := by decide +kernel
theorem dL_act_523 : decode cL_act 523 = .ok (.iload 9, 2) := by decide +kernel
theorem dL_act_525 : decode cL_act 525 = .ok (.if_icmp .ne 24, 3) := by decide +kernel
theorem dL_act_528 : decode cL_act 528 = .ok (.iload 14, 2) := by decide +kernel
theorem dL_act_530 : decode cL_act 530 = .ok (.ifCond .ne 17, 3) := by decide +kernel
theorem dL_act_533 : decode cL_act 533 = .ok (.aload_n 0, 1) := by decide +kernel
theorem dL_act_534 : decode cL_act 534 = .ok (.iconst 4, 1) := by decide +kernel
theorem dL_act_535 : decode cL_act 535 = .ok (.invokevirtual 48, 3) := by decide +kernel
theorem dL_act_538 : decode cL_act 538 = .ok (.iload 10, 2) := by decide +kernel
theorem dL_act_540 : decode cL_act 540 = .ok (.if_icmp .ne 7, 3) := by decide +kernel
theorem dL_act_543 : decode cL_act 543 = .ok (.iconst 1, 1) := by decide +kernel
theorem dL_act_544 : decode cL_act 544 = .ok (.goto 4, 3) := by decide +kernel
theorem dL_act_547 : decode cL_act 547 = .ok (.iconst 0, 1) := by decide +kernel
theorem dL_act_548 : decode cL_act 548 = .ok (.ireturn, 1) := by decide +kernel
theorem dL_act_549 : decode cL_act 549 = .ok (.iload 10, 2) := by decide +kernel
theorem dL_act_551 : decode cL_act 551 = .ok (.ifCond .le 78, 3) := by decide +kernel
theorem dL_act_554 : decode cL_act 554 = .ok (.iload 14, 2) := by decide +kernel
theorem dL_act_556 : decode cL_act 556 = .ok (.iconst 3, 1) := by decide +kernel
theorem dL_act_557 : decode cL_act 557 = .ok (.if_icmp .ne 70, 3) := by decide +kernel
theorem dL_act_560 : decode cL_act 560 = .ok (.aload_n 0, 1) := by decide +kernel
theorem dL_act_561 : decode cL_act 561 = .ok (.iconst 4, 1) := by decide +kernel
theorem dL_act_562 : decode cL_act 562 = .ok (.invokevirtual 48, 3) := by decide +kernel
theorem dL_act_565 : decode cL_act 565 = .ok (.iload 10, 2) := by decide +kernel
theorem dL_act_567 : decode cL_act 567 = .ok (.iconst 1, 1) := by decide +kernel
theorem dL_act_568 : decode cL_act 568 = .ok (.isub, 1) := by decide +kernel
theorem dL_act_569 : decode cL_act 569 = .ok (.if_icmp .ne 58, 3) := by decide +kernel
theorem dL_act_572 : decode cL_act 572 = .ok (.aload_n 0, 1) := by decide +kernel
theorem dL_act_573 : decode cL_act 573 = .ok (.iload 4, 2) := by decide +kernel
theorem dL_act_575 : decode cL_act 575 = .ok (.invokevirtual 109, 3) := by decide +kernel
theorem dL_act_578 : decode cL_act 578 = .ok (.iload 11, 2) := by decide +kernel
theorem dL_act_580 : decode cL_act 580 = .ok (.if_icmp .ne 47, 3) := by decide +kernel
theorem dL_act_583 : decode cL_act 583 = .ok (.aload_n 0, 1) := by decide +kernel
theorem dL_act_584 : decode cL_act 584 = .ok (.iload 12, 2) := by decide +kernel
theorem dL_act_586 : decode cL_act 586 = .ok (.iload 11, 2) := by decide +kernel
theorem dL_act_588 : decode cL_act 588 = .ok (.invokevirtual 83, 3) := by decide +kernel
theorem dL_act_591 : decode cL_act 591 = .ok (.iconst 1, 1) := by decide +kernel
theorem dL_act_592 : decode cL_act 592 = .ok (.iload 4, 2) := by decide +kernel
theorem dL_act_594 : decode cL_act 594 = .ok (.iadd, 1) := by decide +kernel
theorem dL_act_595 : decode cL_act 595 = .ok (.if_icmp .ne 32, 3) := by decide +kernel
theorem dL_act_598 : decode cL_act 598 = .ok (.aload_n 0, 1) := by decide +kernel
theorem dL_act_599 : decode cL_act 599 = .ok (.iload 12, 2) := by decide +kernel
theorem dL_act_601 : decode cL_act 601 = .ok (.iload 11, 2) := by decide +kernel
theorem dL_act_603 : decode cL_act 603 = .ok (.iconst 1, 1) := by decide +kernel
theorem dL_act_604 : decode cL_act 604 = .ok (.iadd, 1) := by decide +kernel
theorem dL_act_605 : decode cL_act 605 = .ok (.invokevirtual 83, 3) := by decide +kernel
theorem dL_act_608 : decode cL_act 608 = .ok (.iload 8, 2) := by decide +kernel
theorem dL_act_610 : decode cL_act 610 = .ok (.if_icmp .ne 17, 3) := by decide +kernel
theorem dL_act_613 : decode cL_act 613 = .ok (.aload_n 0, 1) := by decide +kernel
theorem dL_act_614 : decode cL_act 614 = .ok (.iconst 1, 1) := by decide +kernel
theorem dL_act_615 : decode cL_act 615 = .ok (.invokevirtual 48, 3) := by decide +kernel
theorem dL_act_618 : decode cL_act 618 = .ok (.iload 12, 2) := by decide +kernel
theorem dL_act_620 : decode cL_act 620 = .ok (.if_icmp .ne 7, 3) := by decide +kernel
theorem dL_act_623 : decode cL_act 623 = .ok (.iconst 1, 1) := by decide +kernel
theorem dL_act_624 : decode cL_act 624 = .ok (.goto 4, 3) := by decide +kernel
theorem dL_act_627 : decode cL_act 627 = .ok (.iconst 0, 1) := by decide +kernel
theorem dL_act_628 : decode cL_act 628 = .ok (.ireturn, 1) := by decide +kernel
theorem dL_act_629 : decode cL_act 629 = .ok (.iload 14, 2) := by decide +kernel
theorem dL_act_631 : decode cL_act 631 = .ok (.iconst 3, 1) := by decide +kernel
theorem dL_act_632 : decode cL_act 632 = .ok (.iconst 3, 1) := by decide +kernel
theorem dL_act_633 : decode cL_act 633 = .ok (.aload_n 0, 1) := by decide +kernel
theorem dL_act_634 : decode cL_act 634 = .ok (.bipush 7, 2) := by decide +kernel
theorem dL_act_636 : decode cL_act 636 = .ok (.invokevirtual 48, 3) := by decide +kernel
theorem dL_act_639 : decode cL_act 639 = .ok (.imul, 1) := by decide +kernel
theorem dL_act_640 : decode cL_act 640 = .ok (.iadd, 1) := by decide +kernel
theorem dL_act_641 : decode cL_act 641 = .ok (.if_icmp .ne 52, 3) := by decide +kernel
theorem dL_act_644 : decode cL_act 644 = .ok (.aload_n 0, 1) := by decide +kernel
theorem dL_act_645 : decode cL_act 645 = .ok (.iconst 1, 1) := by decide +kernel
theorem dL_act_646 : decode cL_act 646 = .ok (.invokevirtual 48, 3) := by decide +kernel
theorem dL_act_649 : decode cL_act 649 = .ok (.iconst 1, 1) := by decide +kernel
theorem dL_act_650 : decode cL_act 650 = .ok (.iload 12, 2) := by decide +kernel
theorem dL_act_652 : decode cL_act 652 = .ok (.isub, 1) := by decide +kernel
theorem dL_act_653 : decode cL_act 653 = .ok (.if_icmp .ne 40, 3) := by decide +kernel
theorem dL_act_656 : decode cL_act 656 = .ok (.aload_n 0, 1) := by decide +kernel
theorem dL_act_657 : decode cL_act 657 = .ok (.iconst 3, 1) := by decide +kernel
theorem dL_act_658 : decode cL_act 658 = .ok (.invokevirtual 48, 3) := by decide +kernel
theorem dL_act_661 : decode cL_act 661 = .ok (.iload 13, 2) := by decide +kernel
theorem dL_act_663 : decode cL_act 663 = .ok (.iconst 1, 1) := by decide +kernel
theorem dL_act_664 : decode cL_act 664 = .ok (.iadd, 1) := by decide +kernel
theorem dL_act_665 : decode cL_act 665 = .ok (.sipush 200, 3) := by decide +kernel
theorem dL_act_668 : decode cL_act 668 = .ok (.irem, 1) := by decide +kernel
theorem dL_act_669 : decode cL_act 669 = .ok (.if_icmp .ne 24, 3) := by decide +kernel
theorem dL_act_672 : decode cL_act 672 = .ok (.aload_n 0, 1) := by decide +kernel
theorem dL_act_673 : decode cL_act 673 = .ok (.iconst 4, 1) := by decide +kernel
theorem dL_act_674 : decode cL_act 674 = .ok (.invokevirtual 48, 3) := by decide +kernel
theorem dL_act_677 : decode cL_act 677 = .ok (.bipush 15, 2) := by decide +kernel
theorem dL_act_679 : decode cL_act 679 = .ok (.aload_n 0, 1) := by decide +kernel
theorem dL_act_680 : decode cL_act 680 = .ok (.bipush 7, 2) := by decide +kernel
theorem dL_act_682 : decode cL_act 682 = .ok (.invokevirtual 48, 3) := by decide +kernel
theorem dL_act_685 : decode cL_act 685 = .ok (.isub, 1) := by decide +kernel
theorem dL_act_686 : decode cL_act 686 = .ok (.if_icmp .ne 7, 3) := by decide +kernel
theorem dL_act_689 : decode cL_act 689 = .ok (.iconst 1, 1) := by decide +kernel
theorem dL_act_690 : decode cL_act 690 = .ok (.goto 4, 3) := by decide +kernel
theorem dL_act_693 : decode cL_act 693 = .ok (.iconst 0, 1) := by decide +kernel
theorem dL_act_694 : decode cL_act 694 = .ok (.ireturn, 1) := by decide +kernel
theorem dL_interrupted_0 : decode cL_interrupted 0 = .ok (.aload_n 0, 1) := by decide +kernel
theorem dL_interrupted_1 : decode cL_interrupted 1 = .ok (.iload_n 1, 1) := by decide +kernel
theorem dL_interrupted_2 : decode cL_interrupted 2 = .ok (.invokevirtual 97, 3) := by decide +kernel
theorem dL_interrupted_5 : decode cL_interrupted 5 = .ok (.istore 4, 2) := by decide +kernel
theorem dL_interrupted_7 : decode cL_interrupted 7 = .ok (.aload_n 0, 1) := by decide +kernel
theorem dL_interrupted_8 : decode cL_interrupted 8 = .ok (.iload_n 1, 1) := by decide +kernel
theorem dL_interrupted_9 : decode cL_interrupted 9 = .ok (.iconst 1, 1) := by decide +kernel
theorem dL_interrupted_10 : decode cL_interrupted 10 = .ok (.iadd, 1) := by decide +kernel
theorem dL_interrupted_11 : decode cL_interrupted 11 = .ok (.iconst 3, 1) := by decide +kernel
theorem dL_interrupted_12 : decode cL_interrupted 12 = .ok (.irem, 1) := by decide +kernel
theorem dL_interrupted_13 : decode cL_interrupted 13 = .ok (.invokevirtual 97, 3) := by decide +kernel
theorem dL_interrupted_16 : decode cL_interrupted 16 = .ok (.istore 5, 2) := by decide +kernel
theorem dL_interrupted_18 : decode cL_interrupted 18 = .ok (.aload_n 0, 1) := by decide +kernel
theorem dL_interrupted_19 : decode cL_interrupted 19 = .ok (.iload_n 1, 1) := by decide +kernel
theorem dL_interrupted_20 : decode cL_interrupted 20 = .ok (.iload_n 2, 1) := by decide +kernel
theorem dL_interrupted_21 : decode cL_interrupted 21 = .ok (.iload_n 3, 1) := by decide +kernel
theorem dL_interrupted_22 : decode cL_interrupted 22 = .ok (.iload_n 1, 1) := by decide +kernel
theorem dL_interrupted_23 : decode cL_interrupted 23 = .ok (.invokevirtual 112, 3) := by decide +kernel
theorem dL_interrupted_26 : decode cL_interrupted 26 = .ok (.istore 6, 2) := by decide +kernel
theorem dL_interrupted_28 : decode cL_interrupted 28 = .ok (.iload 6, 2) := by decide +kernel
theorem dL_interrupted_30 : decode cL_interrupted 30 = .ok (.iload 4, 2) := by decide +kernel
theorem dL_interrupted_32 : decode cL_interrupted 32 = .ok (.if_icmp .eq 9, 3) := by decide +kernel
theorem dL_interrupted_35 : decode cL_interrupted 35 = .ok (.iload 6, 2) := by decide +kernel
theorem dL_interrupted_37 : decode cL_interrupted 37 = .ok (.iload_n 2, 1) := by decide +kernel
theorem dL_interrupted_38 : decode cL_interrupted 38 = .ok (.if_icmp .ne 20, 3) := by decide +kernel
theorem dL_interrupted_41 : decode cL_interrupted 41 = .ok (.aload_n 0, 1) := by decide +kernel
theorem dL_interrupted_42 : decode cL_interrupted 42 = .ok (.iload_n 1, 1) := by decide +kernel
theorem dL_interrupted_43 : decode cL_interrupted 43 = .ok (.iload_n 2, 1) := by decide +kernel
theorem dL_interrupted_44 : decode cL_interrupted 44 = .ok (.iload_n 3, 1) := by decide +kernel
theorem dL_interrupted_45 : decode cL_interrupted 45 = .ok (.iload_n 1, 1) := by decide +kernel
theorem dL_interrupted_46 : decode cL_interrupted 46 = .ok (.iconst 1, 1) := by decide +kernel
theorem dL_interrupted_47 : decode cL_interrupted 47 = .ok (.iadd, 1) := by decide +kernel
theorem dL_interrupted_48 : decode cL_interrupted 48 = .ok (.iconst 3, 1) := by decide +kernel
theorem dL_interrupted_49 : decode cL_interrupted 49 = .ok (.irem, 1) := by decide +kernel
theorem dL_interrupted_50 : decode cL_interrupted 50 = .ok (.invokevirtual 112, 3) := by decide +kernel
theorem dL_interrupted_53 : decode cL_interrupted 53 = .ok (.iload 5, 2) := by decide +kernel
theorem dL_interrupted_55 : decode cL_interrupted 55 = .ok (.if_icmp .eq 5, 3) := by decide +kernel
theorem dL_interrupted_58 : decode cL_interrupted 58 = .ok (.iconst 0, 1) := by decide +kernel
theorem dL_interrupted_59 : decode cL_interrupted 59 = .ok (.ireturn, 1) := by decide +kernel
theorem dL_interrupted_60 : decode cL_interrupted 60 = .ok (.aload_n 0, 1) := by decide +kernel
theorem dL_interrupted_61 : decode cL_interrupted 61 = .ok (.bipush 10, 2) := by decide +kernel
theorem dL_interrupted_63 : decode cL_interrupted 63 = .ok (.invokevirtual 48, 3) := by decide +kernel
theorem dL_interrupted_66 : decode cL_interrupted 66 = .ok (.istore 7, 2) := by decide +kernel
theorem dL_interrupted_68 : decode cL_interrupted 68 = .ok (.aload_n 0, 1) := by decide +kernel
theorem dL_interrupted_69 : decode cL_interrupted 69 = .ok (.iload_n 3, 1) := by decide +kernel
theorem dL_interrupted_70 : decode cL_interrupted 70 = .ok (.invokevirtual 116, 3) := by decide +kernel
theorem dL_interrupted_73 : decode cL_interrupted 73 = .ok (.ifCond .ne 13, 3) := by decide +kernel
theorem dL_interrupted_76 : decode cL_interrupted 76 = .ok (.aload_n 0, 1) := by decide +kernel
theorem dL_interrupted_77 : decode cL_interrupted 77 = .ok (.bipush 9, 2) := by decide +kernel
theorem dL_interrupted_79 : decode cL_interrupted 79 = .ok (.invokevirtual 48, 3) := by decide +kernel
theorem dL_interrupted_82 : decode cL_interrupted 82 = .ok (.iload_n 3, 1) := by decide +kernel
theorem dL_interrupted_83 : decode cL_interrupted 83 = .ok (.if_icmp .eq 5, 3) := by decide +kernel
theorem dL_interrupted_86 : decode cL_interrupted 86 = .ok (.iconst 0, 1) := by decide +kernel
theorem dL_interrupted_87 : decode cL_interrupted 87 = .ok (.ireturn, 1) := by decide +kernel
theorem dL_interrupted_88 : decode cL_interrupted 88 = .ok (.aload_n 0, 1) := by decide +kernel
theorem dL_interrupted_89 : decode cL_interrupted 89 = .ok (.iload_n 1, 1) := by decide +kernel
theorem dL_interrupted_90 : decode cL_interrupted 90 = .ok (.iload_n 2, 1) := by decide +kernel
theorem dL_interrupted_91 : decode cL_interrupted 91 = .ok (.invokevirtual 106, 3) := by decide +kernel
theorem dL_interrupted_94 : decode cL_interrupted 94 = .ok (.istore 8, 2) := by decide +kernel
theorem dL_interrupted_96 : decode cL_interrupted 96 = .ok (.aload_n 0, 1) := by decide +kernel
theorem dL_interrupted_97 : decode cL_interrupted 97 = .ok (.iconst 0, 1) := by decide +kernel
theorem dL_interrupted_98 : decode cL_interrupted 98 = .ok (.invokevirtual 48, 3) := by decide +kernel
theorem dL_interrupted_101 : decode cL_interrupted 101 = .ok (.ifCond .ne 7, 3) := by decide +kernel
theorem dL_interrupted_104 : decode cL_interrupted 104 = .ok (.iconst 1, 1) := by decide +kernel
theorem dL_interrupted_105 : decode cL_interrupted 105 = .ok (.goto 4, 3) := by decide +kernel
theorem dL_interrupted_108 : decode cL_interrupted 108 = .ok (.iconst 0, 1) := by decide +kernel
theorem dL_interrupted_109 : decode cL_interrupted 109 = .ok (.istore 9, 2) := by decide +kernel
theorem dL_interrupted_111 : decode cL_interrupted 111 = .ok (.aload_n 0, 1) := by decide +kernel
theorem dL_interrupted_112 : decode cL_interrupted 112 = .ok (.bipush 10, 2) := by decide +kernel
theorem dL_interrupted_114 : decode cL_interrupted 114 = .ok (.invokevirtual 48, 3) := by decide +kernel
theorem dL_interrupted_117 : decode cL_interrupted 117 = .ok (.iload 7, 2) := by decide +kernel
theorem dL_interrupted_119 : decode cL_interrupted 119 = .ok (.iload 8, 2) := by decide +kernel
theorem dL_interrupted_121 : decode cL_interrupted 121 = .ok (.iadd, 1) := by decide +kernel
theorem dL_interrupted_122 : decode cL_interrupted 122 = .ok (.if_icmp .ne 20, 3) := by decide +kernel
theorem dL_interrupted_125 : decode cL_interrupted 125 = .ok (.iload 8, 2) := by decide +kernel
theorem dL_interrupted_127 : decode cL_interrupted 127 = .ok (.iload_n 3, 1) := by decide +kernel
theorem dL_interrupted_128 : decode cL_interrupted 128 = .ok (.if_icmp .gt 14, 3) := by decide +kernel
theorem dL_interrupted_131 : decode cL_interrupted 131 = .ok (.iload 9, 2) := by decide +kernel
theorem dL_interrupted_133 : decode cL_interrupted 133 = .ok (.ifCond .eq 11, 3) := by decide +kernel
theorem dL_interrupted_136 : decode cL_interrupted 136 = .ok (.iload 8, 2) := by decide +kernel
theorem dL_interrupted_138 : decode cL_interrupted 138 = .ok (.iload_n 3, 1) := by decide +kernel
theorem dL_interrupted_139 : decode cL_interrupted 139 = .ok (.if_icmp .eq 5, 3) := by decide +kernel
theorem dL_interrupted_142 : decode cL_interrupted 142 = .ok (.iconst 0, 1) := by decide +kernel
theorem dL_interrupted_143 : decode cL_interrupted 143 = .ok (.ireturn, 1) := by decide +kernel
theorem dL_interrupted_144 : decode cL_interrupted 144 = .ok (.iload 9, 2) := by decide +kernel
theorem dL_interrupted_146 : decode cL_interrupted 146 = .ok (.ifCond .eq 47, 3) := by decide +kernel
theorem dL_interrupted_149 : decode cL_interrupted 149 = .ok (.aload_n 0, 1) := by decide +kernel
theorem dL_interrupted_150 : decode cL_interrupted 150 = .ok (.iload_n 1, 1) := by decide +kernel
theorem dL_interrupted_151 : decode cL_interrupted 151 = .ok (.invokevirtual 97, 3) := by decide +kernel
theorem dL_interrupted_154 : decode cL_interrupted 154 = .ok (.bipush (-5), 2) := by decide +kernel
theorem dL_interrupted_156 : decode cL_interrupted 156 = .ok (.if_icmp .ne 35, 3) := by decide +kernel
theorem dL_interrupted_159 : decode cL_interrupted 159 = .ok (.aload_n 0, 1) := by decide +kernel
theorem dL_interrupted_160 : decode cL_interrupted 160 = .ok (.iload_n 1, 1) := by decide +kernel
theorem dL_interrupted_161 : decode cL_interrupted 161 = .ok (.iload_n 2, 1) := by decide +kernel
theorem dL_interrupted_162 : decode cL_interrupted 162 = .ok (.invokevirtual 106, 3) := by decide +kernel
theorem dL_interrupted_165 : decode cL_interrupted 165 = .ok (.bipush (-5), 2) := by decide +kernel
theorem dL_interrupted_167 : decode cL_interrupted 167 = .ok (.if_icmp .ne 24, 3) := by decide +kernel
theorem dL_interrupted_170 : decode cL_interrupted 170 = .ok (.aload_n 0, 1) := by decide +kernel
theorem dL_interrupted_171 : decode cL_interrupted 171 = .ok (.iconst 1, 1) := by decide +kernel
theorem dL_interrupted_172 : decode cL_interrupted 172 = .ok (.invokevirtual 116, 3) := by decide +kernel
theorem dL_interrupted_175 : decode cL_interrupted 175 = .ok (.bipush (-5), 2) := by decide +kernel
theorem dL_interrupted_177 : decode cL_interrupted 177 = .ok (.if_icmp .ne 14, 3) := by decide +kernel
theorem dL_interrupted_180 : decode cL_interrupted 180 = .ok (.aload_n 0, 1) := by decide +kernel
theorem dL_interrupted_181 : decode cL_interrupted 181 = .ok (.bipush 9, 2) := by decide +kernel
theorem dL_interrupted_183 : decode cL_interrupted 183 = .ok (.invokevirtual 48, 3) := by decide +kernel
theorem dL_interrupted_186 : decode cL_interrupted 186 = .ok (.bipush (-6), 2) := by decide +kernel
theorem dL_interrupted_188 : decode cL_interrupted 188 = .ok (.if_icmp .eq 5, 3) := by decide +kernel
theorem dL_interrupted_191 : decode cL_interrupted 191 = .ok (.iconst 0, 1) := by decide +kernel
theorem dL_interrupted_192 : decode cL_interrupted 192 = .ok (.ireturn, 1) := by decide +kernel
theorem dL_interrupted_193 : decode cL_interrupted 193 = .ok (.iload 9, 2) := by decide +kernel
theorem dL_interrupted_195 : decode cL_interrupted 195 = .ok (.ifCond .ne 27, 3) := by decide +kernel
theorem dL_interrupted_198 : decode cL_interrupted 198 = .ok (.aload_n 0, 1) := by decide +kernel
theorem dL_interrupted_199 : decode cL_interrupted 199 = .ok (.iload_n 1, 1) := by decide +kernel
theorem dL_interrupted_200 : decode cL_interrupted 200 = .ok (.invokevirtual 97, 3) := by decide +kernel
theorem dL_interrupted_203 : decode cL_interrupted 203 = .ok (.iload_n 2, 1) := by decide +kernel
theorem dL_interrupted_204 : decode cL_interrupted 204 = .ok (.if_icmp .ne 16, 3) := by decide +kernel
theorem dL_interrupted_207 : decode cL_interrupted 207 = .ok (.aload_n 0, 1) := by decide +kernel
theorem dL_interrupted_208 : decode cL_interrupted 208 = .ok (.bipush 9, 2) := by decide +kernel
theorem dL_interrupted_210 : decode cL_interrupted 210 = .ok (.invokevirtual 48, 3) := by decide +kernel
theorem dL_interrupted_213 : decode cL_interrupted 213 = .ok (.iload_n 3, 1) := by decide +kernel
theorem dL_interrupted_214 : decode cL_interrupted 214 = .ok (.iload 8, 2) := by decide +kernel
theorem dL_interrupted_216 : decode cL_interrupted 216 = .ok (.isub, 1) := by decide +kernel
theorem dL_interrupted_217 : decode cL_interrupted 217 = .ok (.if_icmp .eq 5, 3) := by decide +kernel
theorem dL_interrupted_220 : decode cL_interrupted 220 = .ok (.iconst 0, 1) := by decide +kernel
theorem dL_interrupted_221 : decode cL_interrupted 221 = .ok (.ireturn, 1) := by decide +kernel
theorem dL_interrupted_222 : decode cL_interrupted 222 = .ok (.aload_n 0, 1) := by decide +kernel
theorem dL_interrupted_223 : decode cL_interrupted 223 = .ok (.invokevirtual 103, 3) := by decide +kernel
theorem dL_interrupted_226 : decode cL_interrupted 226 = .ok (.ifCond .lt 23, 3) := by decide +kernel
theorem dL_interrupted_229 : decode cL_interrupted 229 = .ok (.aload_n 0, 1) := by decide +kernel
theorem dL_interrupted_230 : decode cL_interrupted 230 = .ok (.iconst 0, 1) := by decide +kernel
theorem dL_interrupted_231 : decode cL_interrupted 231 = .ok (.invokevirtual 48, 3) := by decide +kernel
theorem dL_interrupted_234 : decode cL_interrupted 234 = .ok (.iconst 1, 1) := by decide +kernel
theorem dL_interrupted_235 : decode cL_interrupted 235 = .ok (.if_icmp .ne 14, 3) := by decide +kernel
theorem dL_interrupted_238 : decode cL_interrupted 238 = .ok (.aload_n 0, 1) := by decide +kernel
theorem dL_interrupted_239 : decode cL_interrupted 239 = .ok (.bipush 9, 2) := by decide +kernel
theorem dL_interrupted_241 : decode cL_interrupted 241 = .ok (.invokevirtual 48, 3) := by decide +kernel
theorem dL_interrupted_244 : decode cL_interrupted 244 = .ok (.bipush (-6), 2) := by decide +kernel
theorem dL_interrupted_246 : decode cL_interrupted 246 = .ok (.if_icmp .eq 5, 3) := by decide +kernel
theorem dL_interrupted_249 : decode cL_interrupted 249 = .ok (.iconst 0, 1) := by decide +kernel
theorem dL_interrupted_250 : decode cL_interrupted 250 = .ok (.ireturn, 1) := by decide +kernel
theorem dL_interrupted_251 : decode cL_interrupted 251 = .ok (.aload_n 0, 1) := by decide +kernel
theorem dL_interrupted_252 : decode cL_interrupted 252 = .ok (.iload_n 1, 1) := by decide +kernel
theorem dL_interrupted_253 : decode cL_interrupted 253 = .ok (.invokevirtual 97, 3) := by decide +kernel
theorem dL_interrupted_256 : decode cL_interrupted 256 = .ok (.iload 6, 2) := by decide +kernel
theorem dL_interrupted_258 : decode cL_interrupted 258 = .ok (.if_icmp .ne 59, 3) := by decide +kernel
theorem dL_interrupted_261 : decode cL_interrupted 261 = .ok (.aload_n 0, 1) := by decide +kernel
theorem dL_interrupted_262 : decode cL_interrupted 262 = .ok (.iload_n 1, 1) := by decide +kernel
theorem dL_interrupted_263 : decode cL_interrupted 263 = .ok (.iconst 1, 1) := by decide +kernel
theorem dL_interrupted_264 : decode cL_interrupted 264 = .ok (.iadd, 1) := by decide +kernel
theorem dL_interrupted_265 : decode cL_interrupted 265 = .ok (.iconst 3, 1) := by decide +kernel
theorem dL_interrupted_266 : decode cL_interrupted 266 = .ok (.irem, 1) := by decide +kernel
theorem dL_interrupted_267 : decode cL_interrupted 267 = .ok (.invokevirtual 97, 3) := by decide +kernel
theorem dL_interrupted_270 : decode cL_interrupted 270 = .ok (.iload 5, 2) := by decide +kernel
theorem dL_interrupted_272 : decode cL_interrupted 272 = .ok (.if_icmp .ne 45, 3) := by decide +kernel
theorem dL_interrupted_275 : decode cL_interrupted 275 = .ok (.iload 9, 2) := by decide +kernel
theorem dL_interrupted_277 : decode cL_interrupted 277 = .ok (.ifCond .ne 9, 3) := by decide +kernel
theorem dL_interrupted_280 : decode cL_interrupted 280 = .ok (.iload 6, 2) := by decide +kernel
theorem dL_interrupted_282 : decode cL_interrupted 282 = .ok (.iload_n 2, 1) := by decide +kernel
theorem dL_interrupted_283 : decode cL_interrupted 283 = .ok (.if_icmp .ne 34, 3) := by decide +kernel
theorem dL_interrupted_286 : decode cL_interrupted 286 = .ok (.iload 9, 2) := by decide +kernel
theorem dL_interrupted_288 : decode cL_interrupted 288 = .ok (.ifCond .eq 19, 3) := by decide +kernel
theorem dL_interrupted_291 : decode cL_interrupted 291 = .ok (.iload 4, 2) := by decide +kernel
theorem dL_interrupted_293 : decode cL_interrupted 293 = .ok (.iload_n 2, 1) := by decide +kernel
theorem dL_interrupted_294 : decode cL_interrupted 294 = .ok (.if_icmp .eq 13, 3) := by decide +kernel
theorem dL_interrupted_297 : decode cL_interrupted 297 = .ok (.iload 6, 2) := by decide +kernel
theorem dL_interrupted_299 : decode cL_interrupted 299 = .ok (.iload 4, 2) := by decide +kernel
theorem dL_interrupted_301 : decode cL_interrupted 301 = .ok (.if_icmp .ne 16, 3) := by decide +kernel
theorem dL_interrupted_304 : decode cL_interrupted 304 = .ok (.goto 9, 3) := by decide +kernel
theorem dL_interrupted_307 : decode cL_interrupted 307 = .ok (.iload 6, 2) := by decide +kernel
theorem dL_interrupted_309 : decode cL_interrupted 309 = .ok (.iload_n 2, 1) := by decide +kernel
theorem dL_interrupted_310 : decode cL_interrupted 310 = .ok (.if_icmp .ne 7, 3) := by decide +kernel
theorem dL_interrupted_313 : decode cL_interrupted 313 = .ok (.iconst 1, 1) := by decide +kernel
theorem dL_interrupted_314 : decode cL_interrupted 314 = .ok (.goto 4, 3) := by decide +kernel
theorem dL_interrupted_317 : decode cL_interrupted 317 = .ok (.iconst 0, 1) := by decide +kernel
theorem dL_interrupted_318 : decode cL_interrupted 318 = .ok (.ireturn, 1) := by decide +kernel
theorem dL_stands_0 : decode cL_stands 0 = .ok (.aload_n 0, 1) := by decide +kernel
theorem dL_stands_1 : decode cL_stands 1 = .ok (.iconst 1, 1) := by decide +kernel
theorem dL_stands_2 : decode cL_stands 2 = .ok (.invokevirtual 48, 3) := by decide +kernel
theorem dL_stands_5 : decode cL_stands 5 = .ok (.istore_n 1, 1) := by decide +kernel
theorem dL_stands_6 : decode cL_stands 6 = .ok (.aload_n 0, 1) := by decide +kernel
theorem dL_stands_7 : decode cL_stands 7 = .ok (.iconst 2, 1) := by decide +kernel
theorem dL_stands_8 : decode cL_stands 8 = .ok (.invokevirtual 48, 3) := by decide +kernel
theorem dL_stands_11 : decode cL_stands 11 = .ok (.istore_n 2, 1) := by decide +kernel
theorem dL_stands_12 : decode cL_stands 12 = .ok (.iconst 0, 1) := by decide +kernel
theorem dL_stands_13 : decode cL_stands 13 = .ok (.istore_n 3, 1) := by decide +kernel
theorem dL_stands_14 : decode cL_stands 14 = .ok (.iconst 0, 1) := by decide +kernel
theorem dL_stands_15 : decode cL_stands 15 = .ok (.istore 4, 2) := by decide +kernel
theorem dL_stands_17 : decode cL_stands 17 = .ok (.iload 4, 2) := by decide +kernel
theorem dL_stands_19 : decode cL_stands 19 = .ok (.iconst 3, 1) := by decide +kernel
theorem dL_stands_20 : decode cL_stands 20 = .ok (.if_icmp .ge 132, 3) := by decide +kernel
theorem dL_stands_23 : decode cL_stands 23 = .ok (.aload_n 0, 1) := by decide +kernel
theorem dL_stands_24 : decode cL_stands 24 = .ok (.iload 4, 2) := by decide +kernel
theorem dL_stands_26 : decode cL_stands 26 = .ok (.invokevirtual 97, 3) := by decide +kernel
theorem dL_stands_29 : decode cL_stands 29 = .ok (.istore 5, 2) := by decide +kernel
theorem dL_stands_31 : decode cL_stands 31 = .ok (.aload_n 0, 1) := by decide +kernel
theorem dL_stands_32 : decode cL_stands 32 = .ok (.iload 4, 2) := by decide +kernel
theorem dL_stands_34 : decode cL_stands 34 = .ok (.invokevirtual 109, 3) := by decide +kernel
theorem dL_stands_37 : decode cL_stands 37 = .ok (.istore 6, 2) := by decide +kernel
theorem dL_stands_39 : decode cL_stands 39 = .ok (.iload_n 3, 1) := by decide +kernel
theorem dL_stands_40 : decode cL_stands 40 = .ok (.iload 5, 2) := by decide +kernel
theorem dL_stands_42 : decode cL_stands 42 = .ok (.aload_n 0, 1) := by decide +kernel
theorem dL_stands_43 : decode cL_stands 43 = .ok (.iload_n 2, 1) := by decide +kernel
theorem dL_stands_44 : decode cL_stands 44 = .ok (.iload 4, 2) := by decide +kernel
theorem dL_stands_46 : decode cL_stands 46 = .ok (.iconst 1, 1) := by decide +kernel
theorem dL_stands_47 : decode cL_stands 47 = .ok (.invokevirtual 79, 3) := by decide +kernel
theorem dL_stands_50 : decode cL_stands 50 = .ok (.if_icmp .ne 7, 3) := by decide +kernel
theorem dL_stands_53 : decode cL_stands 53 = .ok (.iconst 0, 1) := by decide +kernel
theorem dL_stands_54 : decode cL_stands 54 = .ok (.goto 4, 3) := by decide +kernel
theorem dL_stands_57 : decode cL_stands 57 = .ok (.iconst 1, 1) := by decide +kernel
theorem dL_stands_58 : decode cL_stands 58 = .ok (.iadd, 1) := by decide +kernel
theorem dL_stands_59 : decode cL_stands 59 = .ok (.istore_n 3, 1) := by decide +kernel
theorem dL_stands_60 : decode cL_stands 60 = .ok (.iload 5, 2) := by decide +kernel
theorem dL_stands_62 : decode cL_stands 62 = .ok (.ifCond .lt 16, 3) := by decide +kernel
theorem dL_stands_65 : decode cL_stands 65 = .ok (.iload 5, 2) := by decide +kernel
theorem dL_stands_67 : decode cL_stands 67 = .ok (.aload_n 0, 1) := by decide +kernel
theorem dL_stands_68 : decode cL_stands 68 = .ok (.iload_n 2, 1) := by decide +kernel
theorem dL_stands_69 : decode cL_stands 69 = .ok (.iload 4, 2) := by decide +kernel
theorem dL_stands_71 : decode cL_stands 71 = .ok (.iconst 0, 1) := by decide +kernel
theorem dL_stands_72 : decode cL_stands 72 = .ok (.invokevirtual 79, 3) := by decide +kernel
theorem dL_stands_75 : decode cL_stands 75 = .ok (.if_icmp .le 5, 3) := by decide +kernel
theorem dL_stands_78 : decode cL_stands 78 = .ok (.iconst 0, 1) := by decide +kernel
theorem dL_stands_79 : decode cL_stands 79 = .ok (.ireturn, 1) := by decide +kernel
theorem dL_stands_80 : decode cL_stands 80 = .ok (.iload 6, 2) := by decide +kernel
theorem dL_stands_82 : decode cL_stands 82 = .ok (.ifCond .lt 49, 3) := by decide +kernel
theorem dL_stands_85 : decode cL_stands 85 = .ok (.aload_n 0, 1) := by decide +kernel
theorem dL_stands_86 : decode cL_stands 86 = .ok (.iload_n 1, 1) := by decide +kernel
theorem dL_stands_87 : decode cL_stands 87 = .ok (.iload 6, 2) := by decide +kernel
theorem dL_stands_89 : decode cL_stands 89 = .ok (.invokevirtual 83, 3) := by decide +kernel
theorem dL_stands_92 : decode cL_stands 92 = .ok (.iconst 1, 1) := by decide +kernel
theorem dL_stands_93 : decode cL_stands 93 = .ok (.iload 4, 2) := by decide +kernel
theorem dL_stands_95 : decode cL_stands 95 = .ok (.iadd, 1) := by decide +kernel
theorem dL_stands_96 : decode cL_stands 96 = .ok (.if_icmp .ne 48, 3) := by decide +kernel
theorem dL_stands_99 : decode cL_stands 99 = .ok (.aload_n 0, 1) := by decide +kernel
theorem dL_stands_100 : decode cL_stands 100 = .ok (.iload_n 1, 1) := by decide +kernel
theorem dL_stands_101 : decode cL_stands 101 = .ok (.iload 6, 2) := by decide +kernel
theorem dL_stands_103 : decode cL_stands 103 = .ok (.iconst 1, 1) := by decide +kernel
theorem dL_stands_104 : decode cL_stands 104 = .ok (.iadd, 1) := by decide +kernel
theorem dL_stands_105 : decode cL_stands 105 = .ok (.invokevirtual 83, 3) := by decide +kernel
theorem dL_stands_108 : decode cL_stands 108 = .ok (.iload 5, 2) := by decide +kernel
theorem dL_stands_110 : decode cL_stands 110 = .ok (.if_icmp .ne 34, 3) := by decide +kernel
theorem dL_stands_113 : decode cL_stands 113 = .ok (.iload 6, 2) := by decide +kernel
theorem dL_stands_115 : decode cL_stands 115 = .ok (.bipush 48, 2) := by decide +kernel
theorem dL_stands_117 : decode cL_stands 117 = .ok (.iconst 3, 1) := by decide +kernel
theorem dL_stands_118 : decode cL_stands 118 = .ok (.aload_n 0, 1) := by decide +kernel
theorem dL_stands_119 : decode cL_stands 119 = .ok (.iconst 4, 1) := by decide +kernel
theorem dL_stands_120 : decode cL_stands 120 = .ok (.invokevirtual 48, 3) := by decide +kernel
theorem dL_stands_123 : decode cL_stands 123 = .ok (.imul, 1) := by decide +kernel
theorem dL_stands_124 : decode cL_stands 124 = .ok (.isub, 1) := by decide +kernel
theorem dL_stands_125 : decode cL_stands 125 = .ok (.if_icmp .lt 21, 3) := by decide +kernel
theorem dL_stands_128 : decode cL_stands 128 = .ok (.goto 16, 3) := by decide +kernel
theorem dL_stands_131 : decode cL_stands 131 = .ok (.iload 5, 2) := by decide +kernel
theorem dL_stands_133 : decode cL_stands 133 = .ok (.aload_n 0, 1) := by decide +kernel
theorem dL_stands_134 : decode cL_stands 134 = .ok (.iload_n 2, 1) := by decide +kernel
theorem dL_stands_135 : decode cL_stands 135 = .ok (.iload 4, 2) := by decide +kernel
theorem dL_stands_137 : decode cL_stands 137 = .ok (.iconst 1, 1) := by decide +kernel
theorem dL_stands_138 : decode cL_stands 138 = .ok (.invokevirtual 79, 3) := by decide +kernel
