theorem dX6_state_79 : decode cX6_state 79 = .ok (.goto 4, 3) := by decide +kernel
theorem dX6_state_82 : decode cX6_state 82 = .ok (.iconst 0, 1) := by decide +kernel
theorem dX6_state_83 : decode cX6_state 83 = .ok (.ireturn, 1) := by decide +kernel
theorem dX6_state_84 : decode cX6_state 84 = .ok (.aload_n 0, 1) := by decide +kernel
theorem dX6_state_85 : decode cX6_state 85 = .ok (.getfield 28, 3) := by decide +kernel
theorem dX6_state_88 : decode cX6_state 88 = .ok (.invokevirtual 98, 3) := by decide +kernel
theorem dX6_state_91 : decode cX6_state 91 = .ok (.ireturn, 1) := by decide +kernel
theorem dX6_state_92 : decode cX6_state 92 = .ok (.aload_n 0, 1) := by decide +kernel
theorem dX6_state_93 : decode cX6_state 93 = .ok (.getfield 28, 3) := by decide +kernel
theorem dX6_state_96 : decode cX6_state 96 = .ok (.invokevirtual 119, 3) := by decide +kernel
theorem dX6_state_99 : decode cX6_state 99 = .ok (.ireturn, 1) := by decide +kernel
theorem dX6_state_100 : decode cX6_state 100 = .ok (.aload_n 0, 1) := by decide +kernel
theorem dX6_state_101 : decode cX6_state 101 = .ok (.getfield 28, 3) := by decide +kernel
theorem dX6_state_104 : decode cX6_state 104 = .ok (.invokevirtual 165, 3) := by decide +kernel
theorem dX6_state_107 : decode cX6_state 107 = .ok (.ireturn, 1) := by decide +kernel
theorem dX6_state_108 : decode cX6_state 108 = .ok (.aload_n 0, 1) := by decide +kernel
theorem dX6_state_109 : decode cX6_state 109 = .ok (.getfield 28, 3) := by decide +kernel
theorem dX6_state_112 : decode cX6_state 112 = .ok (.invokevirtual 168, 3) := by decide +kernel
theorem dX6_state_115 : decode cX6_state 115 = .ok (.ireturn, 1) := by decide +kernel
theorem dX6_state_116 : decode cX6_state 116 = .ok (.aload_n 0, 1) := by decide +kernel
theorem dX6_state_117 : decode cX6_state 117 = .ok (.getfield 28, 3) := by decide +kernel
theorem dX6_state_120 : decode cX6_state 120 = .ok (.invokevirtual 171, 3) := by decide +kernel
theorem dX6_state_123 : decode cX6_state 123 = .ok (.ireturn, 1) := by decide +kernel
theorem dX6_state_124 : decode cX6_state 124 = .ok (.aload_n 0, 1) := by decide +kernel
theorem dX6_state_125 : decode cX6_state 125 = .ok (.getfield 28, 3) := by decide +kernel
theorem dX6_state_128 : decode cX6_state 128 = .ok (.invokevirtual 174, 3) := by decide +kernel
theorem dX6_state_131 : decode cX6_state 131 = .ok (.ireturn, 1) := by decide +kernel
theorem dX6_state_132 : decode cX6_state 132 = .ok (.aload_n 0, 1) := by decide +kernel
theorem dX6_state_133 : decode cX6_state 133 = .ok (.getfield 28, 3) := by decide +kernel
theorem dX6_state_136 : decode cX6_state 136 = .ok (.invokevirtual 177, 3) := by decide +kernel
theorem dX6_state_139 : decode cX6_state 139 = .ok (.ireturn, 1) := by decide +kernel
theorem dX6_state_140 : decode cX6_state 140 = .ok (.aload_n 0, 1) := by decide +kernel
theorem dX6_state_141 : decode cX6_state 141 = .ok (.getfield 19, 3) := by decide +kernel
theorem dX6_state_144 : decode cX6_state 144 = .ok (.invokevirtual 47, 3) := by decide +kernel
theorem dX6_state_147 : decode cX6_state 147 = .ok (.ireturn, 1) := by decide +kernel
theorem dX6_state_148 : decode cX6_state 148 = .ok (.aload_n 0, 1) := by decide +kernel
theorem dX6_state_149 : decode cX6_state 149 = .ok (.getfield 28, 3) := by decide +kernel
theorem dX6_state_152 : decode cX6_state 152 = .ok (.invokevirtual 88, 3) := by decide +kernel
theorem dX6_state_155 : decode cX6_state 155 = .ok (.ireturn, 1) := by decide +kernel
theorem dX6_state_156 : decode cX6_state 156 = .ok (.aload_n 0, 1) := by decide +kernel
theorem dX6_state_157 : decode cX6_state 157 = .ok (.getfield 28, 3) := by decide +kernel
theorem dX6_state_160 : decode cX6_state 160 = .ok (.iconst 0, 1) := by decide +kernel
theorem dX6_state_161 : decode cX6_state 161 = .ok (.invokevirtual 132, 3) := by decide +kernel
theorem dX6_state_164 : decode cX6_state 164 = .ok (.invokevirtual 148, 3) := by decide +kernel
theorem dX6_state_167 : decode cX6_state 167 = .ok (.aload_n 0, 1) := by decide +kernel
theorem dX6_state_168 : decode cX6_state 168 = .ok (.getfield 28, 3) := by decide +kernel
theorem dX6_state_171 : decode cX6_state 171 = .ok (.iconst 1, 1) := by decide +kernel
theorem dX6_state_172 : decode cX6_state 172 = .ok (.invokevirtual 132, 3) := by decide +kernel
theorem dX6_state_175 : decode cX6_state 175 = .ok (.invokevirtual 148, 3) := by decide +kernel
theorem dX6_state_178 : decode cX6_state 178 = .ok (.iadd, 1) := by decide +kernel
theorem dX6_state_179 : decode cX6_state 179 = .ok (.ireturn, 1) := by decide +kernel
theorem dX6_state_180 : decode cX6_state 180 = .ok (.aload_n 0, 1) := by decide +kernel
theorem dX6_state_181 : decode cX6_state 181 = .ok (.getfield 28, 3) := by decide +kernel
theorem dX6_state_184 : decode cX6_state 184 = .ok (.iconst 0, 1) := by decide +kernel
theorem dX6_state_185 : decode cX6_state 185 = .ok (.invokevirtual 132, 3) := by decide +kernel
theorem dX6_state_188 : decode cX6_state 188 = .ok (.invokevirtual 151, 3) := by decide +kernel
theorem dX6_state_191 : decode cX6_state 191 = .ok (.aload_n 0, 1) := by decide +kernel
theorem dX6_state_192 : decode cX6_state 192 = .ok (.getfield 28, 3) := by decide +kernel
theorem dX6_state_195 : decode cX6_state 195 = .ok (.iconst 1, 1) := by decide +kernel
theorem dX6_state_196 : decode cX6_state 196 = .ok (.invokevirtual 132, 3) := by decide +kernel
theorem dX6_state_199 : decode cX6_state 199 = .ok (.invokevirtual 151, 3) := by decide +kernel
theorem dX6_state_202 : decode cX6_state 202 = .ok (.iadd, 1) := by decide +kernel
theorem dX6_state_203 : decode cX6_state 203 = .ok (.ireturn, 1) := by decide +kernel
theorem dX6_state_204 : decode cX6_state 204 = .ok (.aload_n 0, 1) := by decide +kernel
theorem dX6_state_205 : decode cX6_state 205 = .ok (.getfield 10, 3) := by decide +kernel
theorem dX6_state_208 : decode cX6_state 208 = .ok (.invokevirtual 180, 3) := by decide +kernel
theorem dX6_state_211 : decode cX6_state 211 = .ok (.ireturn, 1) := by decide +kernel
theorem dX6_state_212 : decode cX6_state 212 = .ok (.bipush (-2), 2) := by decide +kernel
theorem dX6_state_214 : decode cX6_state 214 = .ok (.ireturn, 1) := by decide +kernel
theorem dX6_record_0 : decode cX6_record 0 = .ok (.aload_n 0, 1) := by decide +kernel
theorem dX6_record_1 : decode cX6_record 1 = .ok (.getfield 28, 3) := by decide +kernel
theorem dX6_record_4 : decode cX6_record 4 = .ok (.invokevirtual 84, 3) := by decide +kernel
theorem dX6_record_7 : decode cX6_record 7 = .ok (.ifCond .ne 6, 3) := by decide +kernel
theorem dX6_record_10 : decode cX6_record 10 = .ok (.bipush (-5), 2) := by decide +kernel
theorem dX6_record_12 : decode cX6_record 12 = .ok (.ireturn, 1) := by decide +kernel
theorem dX6_record_13 : decode cX6_record 13 = .ok (.aload_n 0, 1) := by decide +kernel
theorem dX6_record_14 : decode cX6_record 14 = .ok (.getfield 28, 3) := by decide +kernel
theorem dX6_record_17 : decode cX6_record 17 = .ok (.invokevirtual 101, 3) := by decide +kernel
theorem dX6_record_20 : decode cX6_record 20 = .ok (.iload_n 1, 1) := by decide +kernel
theorem dX6_record_21 : decode cX6_record 21 = .ok (.invokevirtual 65, 3) := by decide +kernel
theorem dX6_record_24 : decode cX6_record 24 = .ok (.ifCond .eq 14, 3) := by decide +kernel
theorem dX6_record_27 : decode cX6_record 27 = .ok (.aload_n 0, 1) := by decide +kernel
theorem dX6_record_28 : decode cX6_record 28 = .ok (.getfield 28, 3) := by decide +kernel
theorem dX6_record_31 : decode cX6_record 31 = .ok (.iload_n 1, 1) := by decide +kernel
theorem dX6_record_32 : decode cX6_record 32 = .ok (.invokevirtual 183, 3) := by decide +kernel
theorem dX6_record_35 : decode cX6_record 35 = .ok (.goto 4, 3) := by decide +kernel
theorem dX6_record_38 : decode cX6_record 38 = .ok (.iconst (-1), 1) := by decide +kernel
theorem dX6_record_39 : decode cX6_record 39 = .ok (.ireturn, 1) := by decide +kernel
theorem dX6_ifMigrated_0 : decode cX6_ifMigrated 0 = .ok (.aload_n 0, 1) := by decide +kernel
theorem dX6_ifMigrated_1 : decode cX6_ifMigrated 1 = .ok (.getfield 28, 3) := by decide +kernel
theorem dX6_ifMigrated_4 : decode cX6_ifMigrated 4 = .ok (.invokevirtual 116, 3) := by decide +kernel
theorem dX6_ifMigrated_7 : decode cX6_ifMigrated 7 = .ok (.ifCond .ne 6, 3) := by decide +kernel
theorem dX6_ifMigrated_10 : decode cX6_ifMigrated 10 = .ok (.bipush (-5), 2) := by decide +kernel
theorem dX6_ifMigrated_12 : decode cX6_ifMigrated 12 = .ok (.ireturn, 1) := by decide +kernel
theorem dX6_ifMigrated_13 : decode cX6_ifMigrated 13 = .ok (.aload_n 0, 1) := by decide +kernel
theorem dX6_ifMigrated_14 : decode cX6_ifMigrated 14 = .ok (.getfield 19, 3) := by decide +kernel
theorem dX6_ifMigrated_17 : decode cX6_ifMigrated 17 = .ok (.iload_n 1, 1) := by decide +kernel
theorem dX6_ifMigrated_18 : decode cX6_ifMigrated 18 = .ok (.invokevirtual 61, 3) := by decide +kernel
theorem dX6_ifMigrated_21 : decode cX6_ifMigrated 21 = .ok (.iload_n 2, 1) := by decide +kernel
theorem dX6_ifMigrated_22 : decode cX6_ifMigrated 22 = .ok (.invokevirtual 65, 3) := by decide +kernel
theorem dX6_ifMigrated_25 : decode cX6_ifMigrated 25 = .ok (.ifCond .ne 5, 3) := by decide +kernel
theorem dX6_ifMigrated_28 : decode cX6_ifMigrated 28 = .ok (.iconst (-1), 1) := by decide +kernel
theorem dX6_ifMigrated_29 : decode cX6_ifMigrated 29 = .ok (.ireturn, 1) := by decide +kernel
theorem dX6_ifMigrated_30 : decode cX6_ifMigrated 30 = .ok (.iload_n 1, 1) := by decide +kernel
theorem dX6_ifMigrated_31 : decode cX6_ifMigrated 31 = .ok (.aload_n 0, 1) := by decide +kernel
theorem dX6_ifMigrated_32 : decode cX6_ifMigrated 32 = .ok (.getfield 28, 3) := by decide +kernel
theorem dX6_ifMigrated_35 : decode cX6_ifMigrated 35 = .ok (.invokevirtual 119, 3) := by decide +kernel
theorem dX6_ifMigrated_38 : decode cX6_ifMigrated 38 = .ok (.if_icmp .gt 6, 3) := by decide +kernel
theorem dX6_ifMigrated_41 : decode cX6_ifMigrated 41 = .ok (.bipush (-2), 2) := by decide +kernel
theorem dX6_ifMigrated_43 : decode cX6_ifMigrated 43 = .ok (.ireturn, 1) := by decide +kernel
theorem dX6_ifMigrated_44 : decode cX6_ifMigrated 44 = .ok (.aload_n 0, 1) := by decide +kernel
theorem dX6_ifMigrated_45 : decode cX6_ifMigrated 45 = .ok (.getfield 28, 3) := by decide +kernel
theorem dX6_ifMigrated_48 : decode cX6_ifMigrated 48 = .ok (.iload_n 1, 1) := by decide +kernel
theorem dX6_ifMigrated_49 : decode cX6_ifMigrated 49 = .ok (.iload_n 2, 1) := by decide +kernel
theorem dX6_ifMigrated_50 : decode cX6_ifMigrated 50 = .ok (.invokevirtual 186, 3) := by decide +kernel
theorem dX6_ifMigrated_53 : decode cX6_ifMigrated 53 = .ok (.ireturn, 1) := by decide +kernel
theorem dX6_ifFailed_0 : decode cX6_ifFailed 0 = .ok (.aload_n 0, 1) := by decide +kernel
theorem dX6_ifFailed_1 : decode cX6_ifFailed 1 = .ok (.getfield 28, 3) := by decide +kernel
theorem dX6_ifFailed_4 : decode cX6_ifFailed 4 = .ok (.invokevirtual 84, 3) := by decide +kernel
theorem dX6_ifFailed_7 : decode cX6_ifFailed 7 = .ok (.ifCond .ne 6, 3) := by decide +kernel
theorem dX6_ifFailed_10 : decode cX6_ifFailed 10 = .ok (.bipush (-5), 2) := by decide +kernel
theorem dX6_ifFailed_12 : decode cX6_ifFailed 12 = .ok (.ireturn, 1) := by decide +kernel
theorem dX6_ifFailed_13 : decode cX6_ifFailed 13 = .ok (.aload_n 0, 1) := by decide +kernel
theorem dX6_ifFailed_14 : decode cX6_ifFailed 14 = .ok (.getfield 28, 3) := by decide +kernel
theorem dX6_ifFailed_17 : decode cX6_ifFailed 17 = .ok (.invokevirtual 101, 3) := by decide +kernel
theorem dX6_ifFailed_20 : decode cX6_ifFailed 20 = .ok (.astore 5, 2) := by decide +kernel
theorem dX6_ifFailed_22 : decode cX6_ifFailed 22 = .ok (.aload 5, 2) := by decide +kernel
theorem dX6_ifFailed_24 : decode cX6_ifFailed 24 = .ok (.iload_n 1, 1) := by decide +kernel
theorem dX6_ifFailed_25 : decode cX6_ifFailed 25 = .ok (.invokevirtual 65, 3) := by decide +kernel
theorem dX6_ifFailed_28 : decode cX6_ifFailed 28 = .ok (.ifCond .eq 13, 3) := by decide +kernel
theorem dX6_ifFailed_31 : decode cX6_ifFailed 31 = .ok (.aload 5, 2) := by decide +kernel
theorem dX6_ifFailed_33 : decode cX6_ifFailed 33 = .ok (.iload 4, 2) := by decide +kernel
theorem dX6_ifFailed_35 : decode cX6_ifFailed 35 = .ok (.invokevirtual 65, 3) := by decide +kernel
theorem dX6_ifFailed_38 : decode cX6_ifFailed 38 = .ok (.ifCond .ne 5, 3) := by decide +kernel
theorem dX6_ifFailed_41 : decode cX6_ifFailed 41 = .ok (.iconst (-1), 1) := by decide +kernel
theorem dX6_ifFailed_42 : decode cX6_ifFailed 42 = .ok (.ireturn, 1) := by decide +kernel
theorem dX6_ifFailed_43 : decode cX6_ifFailed 43 = .ok (.aload 5, 2) := by decide +kernel
theorem dX6_ifFailed_45 : decode cX6_ifFailed 45 = .ok (.iload_n 1, 1) := by decide +kernel
theorem dX6_ifFailed_46 : decode cX6_ifFailed 46 = .ok (.iload_n 2, 1) := by decide +kernel
theorem dX6_ifFailed_47 : decode cX6_ifFailed 47 = .ok (.invokevirtual 108, 3) := by decide +kernel
theorem dX6_ifFailed_50 : decode cX6_ifFailed 50 = .ok (.ifCond .eq 10, 3) := by decide +kernel
theorem dX6_ifFailed_53 : decode cX6_ifFailed 53 = .ok (.iload_n 3, 1) := by decide +kernel
theorem dX6_ifFailed_54 : decode cX6_ifFailed 54 = .ok (.invokestatic 81, 3) := by decide +kernel
theorem dX6_ifFailed_57 : decode cX6_ifFailed 57 = .ok (.ifCond .ne 6, 3) := by decide +kernel
theorem dX6_ifFailed_60 : decode cX6_ifFailed 60 = .ok (.bipush (-2), 2) := by decide +kernel
theorem dX6_ifFailed_62 : decode cX6_ifFailed 62 = .ok (.ireturn, 1) := by decide +kernel
theorem dX6_ifFailed_63 : decode cX6_ifFailed 63 = .ok (.aload_n 0, 1) := by decide +kernel
theorem dX6_ifFailed_64 : decode cX6_ifFailed 64 = .ok (.getfield 32, 3) := by decide +kernel
theorem dX6_ifFailed_67 : decode cX6_ifFailed 67 = .ok (.aload_n 0, 1) := by decide +kernel
theorem dX6_ifFailed_68 : decode cX6_ifFailed 68 = .ok (.getfield 28, 3) := by decide +kernel
theorem dX6_ifFailed_71 : decode cX6_ifFailed 71 = .ok (.invokevirtual 189, 3) := by decide +kernel
theorem dX6_ifFailed_74 : decode cX6_ifFailed 74 = .ok (.aload_n 0, 1) := by decide +kernel
theorem dX6_ifFailed_75 : decode cX6_ifFailed 75 = .ok (.getfield 32, 3) := by decide +kernel
theorem dX6_ifFailed_78 : decode cX6_ifFailed 78 = .ok (.iload_n 3, 1) := by decide +kernel
theorem dX6_ifFailed_79 : decode cX6_ifFailed 79 = .ok (.invokevirtual 91, 3) := by decide +kernel
theorem dX6_ifFailed_82 : decode cX6_ifFailed 82 = .ok (.aload_n 0, 1) := by decide +kernel
theorem dX6_ifFailed_83 : decode cX6_ifFailed 83 = .ok (.getfield 32, 3) := by decide +kernel
theorem dX6_ifFailed_86 : decode cX6_ifFailed 86 = .ok (.iload_n 1, 1) := by decide +kernel
theorem dX6_ifFailed_87 : decode cX6_ifFailed 87 = .ok (.iload_n 2, 1) := by decide +kernel
theorem dX6_ifFailed_88 : decode cX6_ifFailed 88 = .ok (.invokevirtual 112, 3) := by decide +kernel
theorem dX6_ifFailed_91 : decode cX6_ifFailed 91 = .ok (.pop, 1) := by decide +kernel
theorem dX6_ifFailed_92 : decode cX6_ifFailed 92 = .ok (.aload_n 0, 1) := by decide +kernel
theorem dX6_ifFailed_93 : decode cX6_ifFailed 93 = .ok (.getfield 32, 3) := by decide +kernel
theorem dX6_ifFailed_96 : decode cX6_ifFailed 96 = .ok (.invokevirtual 95, 3) := by decide +kernel
theorem dX6_ifFailed_99 : decode cX6_ifFailed 99 = .ok (.aload_n 0, 1) := by decide +kernel
theorem dX6_ifFailed_100 : decode cX6_ifFailed 100 = .ok (.getfield 32, 3) := by decide +kernel
theorem dX6_ifFailed_103 : decode cX6_ifFailed 103 = .ok (.invokevirtual 101, 3) := by decide +kernel
theorem dX6_ifFailed_106 : decode cX6_ifFailed 106 = .ok (.iload 4, 2) := by decide +kernel
theorem dX6_ifFailed_108 : decode cX6_ifFailed 108 = .ok (.invokevirtual 65, 3) := by decide +kernel
theorem dX6_ifFailed_111 : decode cX6_ifFailed 111 = .ok (.ifCond .eq 15, 3) := by decide +kernel
theorem dX6_ifFailed_114 : decode cX6_ifFailed 114 = .ok (.aload_n 0, 1) := by decide +kernel
theorem dX6_ifFailed_115 : decode cX6_ifFailed 115 = .ok (.getfield 32, 3) := by decide +kernel
theorem dX6_ifFailed_118 : decode cX6_ifFailed 118 = .ok (.iload 4, 2) := by decide +kernel
theorem dX6_ifFailed_120 : decode cX6_ifFailed 120 = .ok (.invokevirtual 105, 3) := by decide +kernel
theorem dX6_ifFailed_123 : decode cX6_ifFailed 123 = .ok (.goto 5, 3) := by decide +kernel
theorem dX6_ifFailed_126 : decode cX6_ifFailed 126 = .ok (.bipush (-6), 2) := by decide +kernel
theorem dX6_ifFailed_128 : decode cX6_ifFailed 128 = .ok (.ireturn, 1) := by decide +kernel
theorem dX6_put_0 : decode cX6_put 0 = .ok (.aload_n 0, 1) := by decide +kernel
theorem dX6_put_1 : decode cX6_put 1 = .ok (.getfield 10, 3) := by decide +kernel
theorem dX6_put_4 : decode cX6_put 4 = .ok (.lload_n 1, 1) := by decide +kernel
theorem dX6_put_5 : decode cX6_put 5 = .ok (.invokevirtual 193, 3) := by decide +kernel
theorem dX6_put_8 : decode cX6_put 8 = .ok (.ireturn, 1) := by decide +kernel
theorem dX6_wipe_0 : decode cX6_wipe 0 = .ok (.aload_n 0, 1) := by decide +kernel
theorem dX6_wipe_1 : decode cX6_wipe 1 = .ok (.getfield 10, 3) := by decide +kernel
theorem dX6_wipe_4 : decode cX6_wipe 4 = .ok (.invokevirtual 180, 3) := by decide +kernel
theorem dX6_wipe_7 : decode cX6_wipe 7 = .ok (.istore_n 1, 1) := by decide +kernel
theorem dX6_wipe_8 : decode cX6_wipe 8 = .ok (.aload_n 0, 1) := by decide +kernel
theorem dX6_wipe_9 : decode cX6_wipe 9 = .ok (.getfield 10, 3) := by decide +kernel
theorem dX6_wipe_12 : decode cX6_wipe 12 = .ok (.invokevirtual 58, 3) := by decide +kernel
theorem dX6_wipe_15 : decode cX6_wipe 15 = .ok (.iload_n 1, 1) := by decide +kernel
theorem dX6_wipe_16 : decode cX6_wipe 16 = .ok (.ireturn, 1) := by decide +kernel
theorem dX6_fault_0 : decode cX6_fault 0 = .ok (.aload_n 0, 1) := by decide +kernel
theorem dX6_fault_1 : decode cX6_fault 1 = .ok (.getfield 10, 3) := by decide +kernel
theorem dX6_fault_4 : decode cX6_fault 4 = .ok (.invokevirtual 43, 3) := by decide +kernel
theorem dX6_fault_7 : decode cX6_fault 7 = .ok (.ireturn, 1) := by decide +kernel
theorem dX6_keep_0 : decode cX6_keep 0 = .ok (.iload_n 1, 1) := by decide +kernel
theorem dX6_keep_1 : decode cX6_keep 1 = .ok (.invokestatic 197, 3) := by decide +kernel
theorem dX6_keep_4 : decode cX6_keep 4 = .ok (.ifCond .ne 6, 3) := by decide +kernel
theorem dX6_keep_7 : decode cX6_keep 7 = .ok (.bipush (-2), 2) := by decide +kernel
theorem dX6_keep_9 : decode cX6_keep 9 = .ok (.ireturn, 1) := by decide +kernel
theorem dX6_keep_10 : decode cX6_keep 10 = .ok (.aload_n 0, 1) := by decide +kernel
theorem dX6_keep_11 : decode cX6_keep 11 = .ok (.getfield 35, 3) := by decide +kernel
theorem dX6_keep_14 : decode cX6_keep 14 = .ok (.iload_n 1, 1) := by decide +kernel
theorem dX6_keep_15 : decode cX6_keep 15 = .ok (.aaload, 1) := by decide +kernel
theorem dX6_keep_16 : decode cX6_keep 16 = .ok (.aload_n 0, 1) := by decide +kernel
theorem dX6_keep_17 : decode cX6_keep 17 = .ok (.getfield 28, 3) := by decide +kernel
theorem dX6_keep_20 : decode cX6_keep 20 = .ok (.invokevirtual 189, 3) := by decide +kernel
theorem dX6_keep_23 : decode cX6_keep 23 = .ok (.aload_n 0, 1) := by decide +kernel
theorem dX6_keep_24 : decode cX6_keep 24 = .ok (.getfield 39, 3) := by decide +kernel
theorem dX6_keep_27 : decode cX6_keep 27 = .ok (.iload_n 1, 1) := by decide +kernel
theorem dX6_keep_28 : decode cX6_keep 28 = .ok (.iconst 1, 1) := by decide +kernel
theorem dX6_keep_29 : decode cX6_keep 29 = .ok (.bastore, 1) := by decide +kernel
theorem dX6_keep_30 : decode cX6_keep 30 = .ok (.aload_n 0, 1) := by decide +kernel
theorem dX6_keep_31 : decode cX6_keep 31 = .ok (.getfield 28, 3) := by decide +kernel
theorem dX6_keep_34 : decode cX6_keep 34 = .ok (.invokevirtual 98, 3) := by decide +kernel
theorem dX6_keep_37 : decode cX6_keep 37 = .ok (.ireturn, 1) := by decide +kernel
theorem dX6_back_0 : decode cX6_back 0 = .ok (.iload_n 1, 1) := by decide +kernel
theorem dX6_back_1 : decode cX6_back 1 = .ok (.invokestatic 197, 3) := by decide +kernel
theorem dX6_back_4 : decode cX6_back 4 = .ok (.ifCond .ne 6, 3) := by decide +kernel
theorem dX6_back_7 : decode cX6_back 7 = .ok (.bipush (-2), 2) := by decide +kernel
theorem dX6_back_9 : decode cX6_back 9 = .ok (.ireturn, 1) := by decide +kernel
theorem dX6_back_10 : decode cX6_back 10 = .ok (.aload_n 0, 1) := by decide +kernel
theorem dX6_back_11 : decode cX6_back 11 = .ok (.getfield 39, 3) := by decide +kernel
theorem dX6_back_14 : decode cX6_back 14 = .ok (.iload_n 1, 1) := by decide +kernel
theorem dX6_back_15 : decode cX6_back 15 = .ok (.baload, 1) := by decide +kernel
theorem dX6_back_16 : decode cX6_back 16 = .ok (.ifCond .ne 6, 3) := by decide +kernel
theorem dX6_back_19 : decode cX6_back 19 = .ok (.bipush (-5), 2) := by decide +kernel
theorem dX6_back_21 : decode cX6_back 21 = .ok (.ireturn, 1) := by decide +kernel
theorem dX6_back_22 : decode cX6_back 22 = .ok (.aload_n 0, 1) := by decide +kernel
theorem dX6_back_23 : decode cX6_back 23 = .ok (.getfield 28, 3) := by decide +kernel
theorem dX6_back_26 : decode cX6_back 26 = .ok (.aload_n 0, 1) := by decide +kernel
theorem dX6_back_27 : decode cX6_back 27 = .ok (.getfield 35, 3) := by decide +kernel
theorem dX6_back_30 : decode cX6_back 30 = .ok (.iload_n 1, 1) := by decide +kernel
theorem dX6_back_31 : decode cX6_back 31 = .ok (.aaload, 1) := by decide +kernel
theorem dX6_back_32 : decode cX6_back 32 = .ok (.invokevirtual 189, 3) := by decide +kernel
theorem dX6_back_35 : decode cX6_back 35 = .ok (.aload_n 0, 1) := by decide +kernel
theorem dX6_back_36 : decode cX6_back 36 = .ok (.getfield 28, 3) := by decide +kernel
theorem dX6_back_39 : decode cX6_back 39 = .ok (.invokevirtual 98, 3) := by decide +kernel
theorem dX6_back_42 : decode cX6_back 42 = .ok (.ireturn, 1) := by decide +kernel
theorem dX6_isPage_0 : decode cX6_isPage 0 = .ok (.iload_n 0, 1) := by decide +kernel
theorem dX6_isPage_1 : decode cX6_isPage 1 = .ok (.ifCond .lt 12, 3) := by decide +kernel
theorem dX6_isPage_4 : decode cX6_isPage 4 = .ok (.iload_n 0, 1) := by decide +kernel
theorem dX6_isPage_5 : decode cX6_isPage 5 = .ok (.iconst 2, 1) := by decide +kernel
theorem dX6_isPage_6 : decode cX6_isPage 6 = .ok (.if_icmp .ge 7, 3) := by decide +kernel
theorem dX6_isPage_9 : decode cX6_isPage 9 = .ok (.iconst 1, 1) := by decide +kernel
theorem dX6_isPage_10 : decode cX6_isPage 10 = .ok (.goto 4, 3) := by decide +kernel
theorem dX6_isPage_13 : decode cX6_isPage 13 = .ok (.iconst 0, 1) := by decide +kernel
theorem dX6_isPage_14 : decode cX6_isPage 14 = .ok (.ireturn, 1) := by decide +kernel
theorem dX6_isCell_0 : decode cX6_isCell 0 = .ok (.iload_n 0, 1) := by decide +kernel
theorem dX6_isCell_1 : decode cX6_isCell 1 = .ok (.invokestatic 145, 3) := by decide +kernel
theorem dX6_isCell_4 : decode cX6_isCell 4 = .ok (.ifCond .eq 17, 3) := by decide +kernel
theorem dX6_isCell_7 : decode cX6_isCell 7 = .ok (.iload_n 1, 1) := by decide +kernel
theorem dX6_isCell_8 : decode cX6_isCell 8 = .ok (.ifCond .lt 13, 3) := by decide +kernel
theorem dX6_isCell_11 : decode cX6_isCell 11 = .ok (.iload_n 1, 1) := by decide +kernel
theorem dX6_isCell_12 : decode cX6_isCell 12 = .ok (.bipush 48, 2) := by decide +kernel
theorem dX6_isCell_14 : decode cX6_isCell 14 = .ok (.if_icmp .ge 7, 3) := by decide +kernel
theorem dX6_isCell_17 : decode cX6_isCell 17 = .ok (.iconst 1, 1) := by decide +kernel
theorem dX6_isCell_18 : decode cX6_isCell 18 = .ok (.goto 4, 3) := by decide +kernel
theorem dX6_isCell_21 : decode cX6_isCell 21 = .ok (.iconst 0, 1) := by decide +kernel
theorem dX6_isCell_22 : decode cX6_isCell 22 = .ok (.ireturn, 1) := by decide +kernel
theorem dX6_isImage_0 : decode cX6_isImage 0 = .ok (.iload_n 0, 1) := by decide +kernel
theorem dX6_isImage_1 : decode cX6_isImage 1 = .ok (.ifCond .lt 12, 3) := by decide +kernel
theorem dX6_isImage_4 : decode cX6_isImage 4 = .ok (.iload_n 0, 1) := by decide +kernel
theorem dX6_isImage_5 : decode cX6_isImage 5 = .ok (.iconst 2, 1) := by decide +kernel
theorem dX6_isImage_6 : decode cX6_isImage 6 = .ok (.if_icmp .ge 7, 3) := by decide +kernel
theorem dX6_isImage_9 : decode cX6_isImage 9 = .ok (.iconst 1, 1) := by decide +kernel
theorem dX6_isImage_10 : decode cX6_isImage 10 = .ok (.goto 4, 3) := by decide +kernel
theorem dX6_isImage_13 : decode cX6_isImage 13 = .ok (.iconst 0, 1) := by decide +kernel
theorem dX6_isImage_14 : decode cX6_isImage 14 = .ok (.ireturn, 1) := by decide +kernel
theorem dX6_isCountOfWrites_0 : decode cX6_isCountOfWrites 0 = .ok (.iload_n 0, 1) := by decide +kernel
theorem dX6_isCountOfWrites_1 : decode cX6_isCountOfWrites 1 = .ok (.ifCond .lt 14, 3) := by decide +kernel
theorem dX6_isCountOfWrites_4 : decode cX6_isCountOfWrites 4 = .ok (.iload_n 0, 1) := by decide +kernel
theorem dX6_isCountOfWrites_5 : decode cX6_isCountOfWrites 5 = .ok (.sipush 200, 3) := by decide +kernel
theorem dX6_isCountOfWrites_8 : decode cX6_isCountOfWrites 8 = .ok (.if_icmp .gt 7, 3) := by decide +kernel
theorem dX6_isCountOfWrites_11 : decode cX6_isCountOfWrites 11 = .ok (.iconst 1, 1) := by decide +kernel
theorem dX6_isCountOfWrites_12 : decode cX6_isCountOfWrites 12 = .ok (.goto 4, 3) := by decide +kernel
theorem dX6_isCountOfWrites_15 : decode cX6_isCountOfWrites 15 = .ok (.iconst 0, 1) := by decide +kernel
theorem dX6_isCountOfWrites_16 : decode cX6_isCountOfWrites 16 = .ok (.ireturn, 1) := by decide +kernel
theorem dX6_isName_0 : decode cX6_isName 0 = .ok (.iload_n 0, 1) := by decide +kernel
theorem dX6_isName_1 : decode cX6_isName 1 = .ok (.ifCond .lt 13, 3) := by decide +kernel
theorem dX6_isName_4 : decode cX6_isName 4 = .ok (.iload_n 0, 1) := by decide +kernel
theorem dX6_isName_5 : decode cX6_isName 5 = .ok (.bipush 10, 2) := by decide +kernel
theorem dX6_isName_7 : decode cX6_isName 7 = .ok (.if_icmp .ge 7, 3) := by decide +kernel
theorem dX6_isName_10 : decode cX6_isName 10 = .ok (.iconst 1, 1) := by decide +kernel
theorem dX6_isName_11 : decode cX6_isName 11 = .ok (.goto 4, 3) := by decide +kernel
theorem dX6_isName_14 : decode cX6_isName 14 = .ok (.iconst 0, 1) := by decide +kernel
theorem dX6_isName_15 : decode cX6_isName 15 = .ok (.ireturn, 1) := by decide +kernel
theorem dX7_init_0 : decode cX7_init 0 = .ok (.aload_n 0, 1) := by decide +kernel
theorem dX7_init_1 : decode cX7_init 1 = .ok (.invokespecial 1, 3) := by decide +kernel
theorem dX7_init_4 : decode cX7_init 4 = .ok (.aload_n 0, 1) := by decide +kernel
theorem dX7_init_5 : decode cX7_init 5 = .ok (.bipush 127, 2) := by decide +kernel
theorem dX7_init_7 : decode cX7_init 7 = .ok (.newarray .int, 2) := by decide +kernel
theorem dX7_init_9 : decode cX7_init 9 = .ok (.putfield 7, 3) := by decide +kernel
theorem dX7_init_12 : decode cX7_init 12 = .ok (.aload_n 0, 1) := by decide +kernel
theorem dX7_init_13 : decode cX7_init 13 = .ok (.bipush 127, 2) := by decide +kernel
theorem dX7_init_15 : decode cX7_init 15 = .ok (.newarray .int, 2) := by decide +kernel
theorem dX7_init_17 : decode cX7_init 17 = .ok (.putfield 13, 3) := by decide +kernel
theorem dX7_init_20 : decode cX7_init 20 = .ok (.aload_n 0, 1) := by decide +kernel
theorem dX7_init_21 : decode cX7_init 21 = .ok (.sipush 254, 3) := by decide +kernel
theorem dX7_init_24 : decode cX7_init 24 = .ok (.newarray .int, 2) := by decide +kernel
theorem dX7_init_26 : decode cX7_init 26 = .ok (.putfield 16, 3) := by decide +kernel
theorem dX7_init_29 : decode cX7_init 29 = .ok (.aload_n 0, 1) := by decide +kernel
theorem dX7_init_30 : decode cX7_init 30 = .ok (.iconst 2, 1) := by decide +kernel
theorem dX7_init_31 : decode cX7_init 31 = .ok (.newarray .boolean, 2) := by decide +kernel
theorem dX7_init_33 : decode cX7_init 33 = .ok (.putfield 19, 3) := by decide +kernel
theorem dX7_init_36 : decode cX7_init 36 = .ok (.aload_n 0, 1) := by decide +kernel
theorem dX7_init_37 : decode cX7_init 37 = .ok (.bipush 80, 2) := by decide +kernel
theorem dX7_init_39 : decode cX7_init 39 = .ok (.newarray .int, 2) := by decide +kernel
theorem dX7_init_41 : decode cX7_init 41 = .ok (.putfield 23, 3) := by decide +kernel
theorem dX7_init_44 : decode cX7_init 44 = .ok (.aload_n 0, 1) := by decide +kernel
theorem dX7_init_45 : decode cX7_init 45 = .ok (.bipush 60, 2) := by decide +kernel
theorem dX7_init_47 : decode cX7_init 47 = .ok (.newarray .boolean, 2) := by decide +kernel
theorem dX7_init_49 : decode cX7_init 49 = .ok (.putfield 26, 3) := by decide +kernel
theorem dX7_init_52 : decode cX7_init 52 = .ok (.aload_n 0, 1) := by decide +kernel
theorem dX7_init_53 : decode cX7_init 53 = .ok (.bipush 60, 2) := by decide +kernel
theorem dX7_init_55 : decode cX7_init 55 = .ok (.newarray .int, 2) := by decide +kernel
theorem dX7_init_57 : decode cX7_init 57 = .ok (.putfield 29, 3) := by decide +kernel
theorem dX7_init_60 : decode cX7_init 60 = .ok (.aload_n 0, 1) := by decide +kernel
theorem dX7_init_61 : decode cX7_init 61 = .ok (.bipush 60, 2) := by decide +kernel
theorem dX7_init_63 : decode cX7_init 63 = .ok (.newarray .int, 2) := by decide +kernel
theorem dX7_init_65 : decode cX7_init 65 = .ok (.putfield 32, 3) := by decide +kernel
theorem dX7_init_68 : decode cX7_init 68 = .ok (.aload_n 0, 1) := by decide +kernel
theorem dX7_init_69 : decode cX7_init 69 = .ok (.bipush 60, 2) := by decide +kernel
theorem dX7_init_71 : decode cX7_init 71 = .ok (.newarray .int, 2) := by decide +kernel
theorem dX7_init_73 : decode cX7_init 73 = .ok (.putfield 35, 3) := by decide +kernel
theorem dX7_init_76 : decode cX7_init 76 = .ok (.aload_n 0, 1) := by decide +kernel
theorem dX7_init_77 : decode cX7_init 77 = .ok (.bipush 6, 2) := by decide +kernel
theorem dX7_init_79 : decode cX7_init 79 = .ok (.newarray .int, 2) := by decide +kernel
theorem dX7_init_81 : decode cX7_init 81 = .ok (.putfield 38, 3) := by decide +kernel
theorem dX7_init_84 : decode cX7_init 84 = .ok (.aload_n 0, 1) := by decide +kernel
theorem dX7_init_85 : decode cX7_init 85 = .ok (.sipush 168, 3) := by decide +kernel
theorem dX7_init_88 : decode cX7_init 88 = .ok (.newarray .int, 2) := by decide +kernel
theorem dX7_init_90 : decode cX7_init 90 = .ok (.putfield 41, 3) := by decide +kernel
theorem dX7_init_93 : decode cX7_init 93 = .ok (.aload_n 0, 1) := by decide +kernel
theorem dX7_init_94 : decode cX7_init 94 = .ok (.sipush 168, 3) := by decide +kernel
theorem dX7_init_97 : decode cX7_init 97 = .ok (.newarray .int, 2) := by decide +kernel
theorem dX7_init_99 : decode cX7_init 99 = .ok (.putfield 44, 3) := by decide +kernel
theorem dX7_init_102 : decode cX7_init 102 = .ok (.aload_n 0, 1) := by decide +kernel
theorem dX7_init_103 : decode cX7_init 103 = .ok (.sipush 168, 3) := by decide +kernel
theorem dX7_init_106 : decode cX7_init 106 = .ok (.newarray .int, 2) := by decide +kernel
theorem dX7_init_108 : decode cX7_init 108 = .ok (.putfield 47, 3) := by decide +kernel
theorem dX7_init_111 : decode cX7_init 111 = .ok (.aload_n 0, 1) := by decide +kernel
theorem dX7_init_112 : decode cX7_init 112 = .ok (.sipush 168, 3) := by decide +kernel
theorem dX7_init_115 : decode cX7_init 115 = .ok (.newarray .int, 2) := by decide +kernel
theorem dX7_init_117 : decode cX7_init 117 = .ok (.putfield 50, 3) := by decide +kernel
theorem dX7_init_120 : decode cX7_init 120 = .ok (.aload_n 0, 1) := by decide +kernel
theorem dX7_init_121 : decode cX7_init 121 = .ok (.bipush 10, 2) := by decide +kernel
theorem dX7_init_123 : decode cX7_init 123 = .ok (.newarray .int, 2) := by decide +kernel
theorem dX7_init_125 : decode cX7_init 125 = .ok (.putfield 53, 3) := by decide +kernel
theorem dX7_init_128 : decode cX7_init 128 = .ok (.aload_n 0, 1) := by decide +kernel
theorem dX7_init_129 : decode cX7_init 129 = .ok (.bipush 10, 2) := by decide +kernel
theorem dX7_init_131 : decode cX7_init 131 = .ok (.newarray .int, 2) := by decide +kernel
theorem dX7_init_133 : decode cX7_init 133 = .ok (.putfield 56, 3) := by decide +kernel
theorem dX7_init_136 : decode cX7_init 136 = .ok (.aload_n 0, 1) := by decide +kernel
theorem dX7_init_137 : decode cX7_init 137 = .ok (.getfield 7, 3) := by decide +kernel
theorem dX7_init_140 : decode cX7_init 140 = .ok (.iconst 0, 1) := by decide +kernel
theorem dX7_init_141 : decode cX7_init 141 = .ok (.iconst 1, 1) := by decide +kernel
theorem dX7_init_142 : decode cX7_init 142 = .ok (.iastore, 1) := by decide +kernel
theorem dX7_init_143 : decode cX7_init 143 = .ok (.aload_n 0, 1) := by decide +kernel
theorem dX7_init_144 : decode cX7_init 144 = .ok (.getfield 7, 3) := by decide +kernel
theorem dX7_init_147 : decode cX7_init 147 = .ok (.iconst 1, 1) := by decide +kernel
theorem dX7_init_148 : decode cX7_init 148 = .ok (.bipush (-6), 2) := by decide +kernel
theorem dX7_init_150 : decode cX7_init 150 = .ok (.iastore, 1) := by decide +kernel
theorem dX7_init_151 : decode cX7_init 151 = .ok (.aload_n 0, 1) := by decide +kernel
theorem dX7_init_152 : decode cX7_init 152 = .ok (.getfield 7, 3) := by decide +kernel
theorem dX7_init_155 : decode cX7_init 155 = .ok (.iconst 2, 1) := by decide +kernel
theorem dX7_init_156 : decode cX7_init 156 = .ok (.bipush (-6), 2) := by decide +kernel
theorem dX7_init_158 : decode cX7_init 158 = .ok (.iastore, 1) := by decide +kernel
theorem dX7_init_159 : decode cX7_init 159 = .ok (.aload_n 0, 1) := by decide +kernel
theorem dX7_init_160 : decode cX7_init 160 = .ok (.getfield 7, 3) := by decide +kernel
theorem dX7_init_163 : decode cX7_init 163 = .ok (.iconst 3, 1) := by decide +kernel
theorem dX7_init_164 : decode cX7_init 164 = .ok (.bipush (-6), 2) := by decide +kernel
theorem dX7_init_166 : decode cX7_init 166 = .ok (.iastore, 1) := by decide +kernel
theorem dX7_init_167 : decode cX7_init 167 = .ok (.aload_n 0, 1) := by decide +kernel
theorem dX7_init_168 : decode cX7_init 168 = .ok (.getfield 7, 3) := by decide +kernel
theorem dX7_init_171 : decode cX7_init 171 = .ok (.iconst 4, 1) := by decide +kernel
theorem dX7_init_172 : decode cX7_init 172 = .ok (.bipush (-6), 2) := by decide +kernel
theorem dX7_init_174 : decode cX7_init 174 = .ok (.iastore, 1) := by decide +kernel
theorem dX7_init_175 : decode cX7_init 175 = .ok (.iconst 0, 1) := by decide +kernel
theorem dX7_init_176 : decode cX7_init 176 = .ok (.istore_n 1, 1) := by decide +kernel
theorem dX7_init_177 : decode cX7_init 177 = .ok (.iload_n 1, 1) := by decide +kernel
theorem dX7_init_178 : decode cX7_init 178 = .ok (.bipush 96, 2) := by decide +kernel
theorem dX7_init_180 : decode cX7_init 180 = .ok (.if_icmp .ge 20, 3) := by decide +kernel
theorem dX7_init_183 : decode cX7_init 183 = .ok (.aload_n 0, 1) := by decide +kernel
theorem dX7_init_184 : decode cX7_init 184 = .ok (.getfield 7, 3) := by decide +kernel
theorem dX7_init_187 : decode cX7_init 187 = .ok (.bipush 21, 2) := by decide +kernel
theorem dX7_init_189 : decode cX7_init 189 = .ok (.iload_n 1, 1) := by decide +kernel
theorem dX7_init_190 : decode cX7_init 190 = .ok (.iadd, 1) := by decide +kernel
theorem dX7_init_191 : decode cX7_init 191 = .ok (.bipush (-6), 2) := by decide +kernel
theorem dX7_init_193 : decode cX7_init 193 = .ok (.iastore, 1) := by decide +kernel
theorem dX7_init_194 : decode cX7_init 194 = .ok (.iinc 1 1, 3) := by decide +kernel
theorem dX7_init_197 : decode cX7_init 197 = .ok (.goto (-20), 3) := by decide +kernel
theorem dX7_init_200 : decode cX7_init 200 = .ok (.return_, 1) := by decide +kernel
theorem dX7_in_0 : decode cX7_in 0 = .ok (.iload_n 0, 1) := by decide +kernel
theorem dX7_in_1 : decode cX7_in 1 = .ok (.iload_n 1, 1) := by decide +kernel
theorem dX7_in_2 : decode cX7_in 2 = .ok (.if_icmp .lt 12, 3) := by decide +kernel
theorem dX7_in_5 : decode cX7_in 5 = .ok (.iload_n 0, 1) := by decide +kernel
theorem dX7_in_6 : decode cX7_in 6 = .ok (.iload_n 2, 1) := by decide +kernel
theorem dX7_in_7 : decode cX7_in 7 = .ok (.if_icmp .gt 7, 3) := by decide +kernel
theorem dX7_in_10 : decode cX7_in 10 = .ok (.iconst 1, 1) := by decide +kernel
theorem dX7_in_11 : decode cX7_in 11 = .ok (.goto 4, 3) := by decide +kernel
theorem dX7_in_14 : decode cX7_in 14 = .ok (.iconst 0, 1) := by decide +kernel
theorem dX7_in_15 : decode cX7_in 15 = .ok (.ireturn, 1) := by decide +kernel
theorem dX7_less_0 : decode cX7_less 0 = .ok (.iload_n 0, 1) := by decide +kernel
theorem dX7_less_1 : decode cX7_less 1 = .ok (.iload_n 1, 1) := by decide +kernel
theorem dX7_less_2 : decode cX7_less 2 = .ok (.if_icmp .ge 7, 3) := by decide +kernel
theorem dX7_less_5 : decode cX7_less 5 = .ok (.iload_n 0, 1) := by decide +kernel
theorem dX7_less_6 : decode cX7_less 6 = .ok (.goto 4, 3) := by decide +kernel
theorem dX7_less_9 : decode cX7_less 9 = .ok (.iload_n 1, 1) := by decide +kernel
theorem dX7_less_10 : decode cX7_less 10 = .ok (.ireturn, 1) := by decide +kernel
theorem dX7_isVersion_0 : decode cX7_isVersion 0 = .ok (.iload_n 1, 1) := by decide +kernel
theorem dX7_isVersion_1 : decode cX7_isVersion 1 = .ok (.ifCond .lt 15, 3) := by decide +kernel
theorem dX7_isVersion_4 : decode cX7_isVersion 4 = .ok (.iload_n 1, 1) := by decide +kernel
theorem dX7_isVersion_5 : decode cX7_isVersion 5 = .ok (.aload_n 0, 1) := by decide +kernel
theorem dX7_isVersion_6 : decode cX7_isVersion 6 = .ok (.getfield 59, 3) := by decide +kernel
theorem dX7_isVersion_9 : decode cX7_isVersion 9 = .ok (.if_icmp .ge 7, 3) := by decide +kernel
theorem dX7_isVersion_12 : decode cX7_isVersion 12 = .ok (.iconst 1, 1) := by decide +kernel
theorem dX7_isVersion_13 : decode cX7_isVersion 13 = .ok (.goto 4, 3) := by decide +kernel
theorem dX7_isVersion_16 : decode cX7_isVersion 16 = .ok (.iconst 0, 1) := by decide +kernel
theorem dX7_isVersion_17 : decode cX7_isVersion 17 = .ok (.ireturn, 1) := by decide +kernel
theorem dX7_hasSetting_0 : decode cX7_hasSetting 0 = .ok (.iload_n 2, 1) := by decide +kernel
theorem dX7_hasSetting_1 : decode cX7_hasSetting 1 = .ok (.iconst 0, 1) := by decide +kernel
theorem dX7_hasSetting_2 : decode cX7_hasSetting 2 = .ok (.bipush 9, 2) := by decide +kernel
theorem dX7_hasSetting_4 : decode cX7_hasSetting 4 = .ok (.invokestatic 63, 3) := by decide +kernel
theorem dX7_hasSetting_7 : decode cX7_hasSetting 7 = .ok (.ifCond .eq 21, 3) := by decide +kernel
theorem dX7_hasSetting_10 : decode cX7_hasSetting 10 = .ok (.aload_n 0, 1) := by decide +kernel
theorem dX7_hasSetting_11 : decode cX7_hasSetting 11 = .ok (.getfield 26, 3) := by decide +kernel
theorem dX7_hasSetting_14 : decode cX7_hasSetting 14 = .ok (.bipush 10, 2) := by decide +kernel
theorem dX7_hasSetting_16 : decode cX7_hasSetting 16 = .ok (.iload_n 1, 1) := by decide +kernel
theorem dX7_hasSetting_17 : decode cX7_hasSetting 17 = .ok (.imul, 1) := by decide +kernel
theorem dX7_hasSetting_18 : decode cX7_hasSetting 18 = .ok (.iload_n 2, 1) := by decide +kernel
theorem dX7_hasSetting_19 : decode cX7_hasSetting 19 = .ok (.iadd, 1) := by decide +kernel
theorem dX7_hasSetting_20 : decode cX7_hasSetting 20 = .ok (.baload, 1) := by decide +kernel
theorem dX7_hasSetting_21 : decode cX7_hasSetting 21 = .ok (.ifCond .eq 7, 3) := by decide +kernel
theorem dX7_hasSetting_24 : decode cX7_hasSetting 24 = .ok (.iconst 1, 1) := by decide +kernel
theorem dX7_hasSetting_25 : decode cX7_hasSetting 25 = .ok (.goto 4, 3) := by decide +kernel
theorem dX7_hasSetting_28 : decode cX7_hasSetting 28 = .ok (.iconst 0, 1) := by decide +kernel
theorem dX7_hasSetting_29 : decode cX7_hasSetting 29 = .ok (.ireturn, 1) := by decide +kernel
theorem dX7_changed_0 : decode cX7_changed 0 = .ok (.iload_n 0, 1) := by decide +kernel
theorem dX7_changed_1 : decode cX7_changed 1 = .ok (.iconst 3, 1) := by decide +kernel
theorem dX7_changed_2 : decode cX7_changed 2 = .ok (.if_icmp .ne 15, 3) := by decide +kernel
theorem dX7_changed_5 : decode cX7_changed 5 = .ok (.sipush 255, 3) := by decide +kernel
theorem dX7_changed_8 : decode cX7_changed 8 = .ok (.iload_n 1, 1) := by decide +kernel
theorem dX7_changed_9 : decode cX7_changed 9 = .ok (.iload_n 2, 1) := by decide +kernel
theorem dX7_changed_10 : decode cX7_changed 10 = .ok (.imul, 1) := by decide +kernel
theorem dX7_changed_11 : decode cX7_changed 11 = .ok (.invokestatic 67, 3) := by decide +kernel
theorem dX7_changed_14 : decode cX7_changed 14 = .ok (.goto 19, 3) := by decide +kernel
theorem dX7_changed_17 : decode cX7_changed 17 = .ok (.iload_n 0, 1) := by decide +kernel
theorem dX7_changed_18 : decode cX7_changed 18 = .ok (.iconst 4, 1) := by decide +kernel
theorem dX7_changed_19 : decode cX7_changed 19 = .ok (.if_icmp .ne 9, 3) := by decide +kernel
theorem dX7_changed_22 : decode cX7_changed 22 = .ok (.iload_n 1, 1) := by decide +kernel
theorem dX7_changed_23 : decode cX7_changed 23 = .ok (.iload_n 2, 1) := by decide +kernel
theorem dX7_changed_24 : decode cX7_changed 24 = .ok (.idiv, 1) := by decide +kernel
theorem dX7_changed_25 : decode cX7_changed 25 = .ok (.goto 8, 3) := by decide +kernel
theorem dX7_changed_28 : decode cX7_changed 28 = .ok (.iload_n 1, 1) := by decide +kernel
theorem dX7_changed_29 : decode cX7_changed 29 = .ok (.iload_n 2, 1) := by decide +kernel
theorem dX7_changed_30 : decode cX7_changed 30 = .ok (.invokestatic 67, 3) := by decide +kernel
theorem dX7_changed_33 : decode cX7_changed 33 = .ok (.ireturn, 1) := by decide +kernel
theorem dX7_canDo_0 : decode cX7_canDo 0 = .ok (.aload_n 0, 1) := by decide +kernel
theorem dX7_canDo_1 : decode cX7_canDo 1 = .ok (.iload_n 2, 1) := by decide +kernel
theorem dX7_canDo_2 : decode cX7_canDo 2 = .ok (.aload_n 0, 1) := by decide +kernel
theorem dX7_canDo_3 : decode cX7_canDo 3 = .ok (.getfield 44, 3) := by decide +kernel
theorem dX7_canDo_6 : decode cX7_canDo 6 = .ok (.iload_n 1, 1) := by decide +kernel
theorem dX7_canDo_7 : decode cX7_canDo 7 = .ok (.iaload, 1) := by decide +kernel
theorem dX7_canDo_8 : decode cX7_canDo 8 = .ok (.invokevirtual 71, 3) := by decide +kernel
theorem dX7_canDo_11 : decode cX7_canDo 11 = .ok (.istore_n 3, 1) := by decide +kernel
theorem dX7_canDo_12 : decode cX7_canDo 12 = .ok (.aload_n 0, 1) := by decide +kernel
theorem dX7_canDo_13 : decode cX7_canDo 13 = .ok (.getfield 41, 3) := by decide +kernel
theorem dX7_canDo_16 : decode cX7_canDo 16 = .ok (.iload_n 1, 1) := by decide +kernel
theorem dX7_canDo_17 : decode cX7_canDo 17 = .ok (.iaload, 1) := by decide +kernel
theorem dX7_canDo_18 : decode cX7_canDo 18 = .ok (.ifCond .ne 28, 3) := by decide +kernel
theorem dX7_canDo_21 : decode cX7_canDo 21 = .ok (.iload_n 3, 1) := by decide +kernel
theorem dX7_canDo_22 : decode cX7_canDo 22 = .ok (.ifCond .ne 22, 3) := by decide +kernel
theorem dX7_canDo_25 : decode cX7_canDo 25 = .ok (.aload_n 0, 1) := by decide +kernel
theorem dX7_canDo_26 : decode cX7_canDo 26 = .ok (.getfield 50, 3) := by decide +kernel
theorem dX7_canDo_29 : decode cX7_canDo 29 = .ok (.iload_n 1, 1) := by decide +kernel
theorem dX7_canDo_30 : decode cX7_canDo 30 = .ok (.iaload, 1) := by decide +kernel
theorem dX7_canDo_31 : decode cX7_canDo 31 = .ok (.aload_n 0, 1) := by decide +kernel
theorem dX7_canDo_32 : decode cX7_canDo 32 = .ok (.getfield 47, 3) := by decide +kernel
theorem dX7_canDo_35 : decode cX7_canDo 35 = .ok (.iload_n 1, 1) := by decide +kernel
theorem dX7_canDo_36 : decode cX7_canDo 36 = .ok (.iaload, 1) := by decide +kernel
theorem dX7_canDo_37 : decode cX7_canDo 37 = .ok (.if_icmp .gt 7, 3) := by decide +kernel
theorem dX7_canDo_40 : decode cX7_canDo 40 = .ok (.iconst 1, 1) := by decide +kernel
theorem dX7_canDo_41 : decode cX7_canDo 41 = .ok (.goto 4, 3) := by decide +kernel
theorem dX7_canDo_44 : decode cX7_canDo 44 = .ok (.iconst 0, 1) := by decide +kernel
theorem dX7_canDo_45 : decode cX7_canDo 45 = .ok (.ireturn, 1) := by decide +kernel
theorem dX7_canDo_46 : decode cX7_canDo 46 = .ok (.iload_n 3, 1) := by decide +kernel
theorem dX7_canDo_47 : decode cX7_canDo 47 = .ok (.ifCond .eq 31, 3) := by decide +kernel
theorem dX7_canDo_50 : decode cX7_canDo 50 = .ok (.aload_n 0, 1) := by decide +kernel
theorem dX7_canDo_51 : decode cX7_canDo 51 = .ok (.getfield 41, 3) := by decide +kernel
theorem dX7_canDo_54 : decode cX7_canDo 54 = .ok (.iload_n 1, 1) := by decide +kernel
theorem dX7_canDo_55 : decode cX7_canDo 55 = .ok (.iaload, 1) := by decide +kernel
theorem dX7_canDo_56 : decode cX7_canDo 56 = .ok (.iconst 2, 1) := by decide +kernel
theorem dX7_canDo_57 : decode cX7_canDo 57 = .ok (.if_icmp .ne 17, 3) := by decide +kernel
theorem dX7_canDo_60 : decode cX7_canDo 60 = .ok (.aload_n 0, 1) := by decide +kernel
theorem dX7_canDo_61 : decode cX7_canDo 61 = .ok (.iload_n 2, 1) := by decide +kernel
theorem dX7_canDo_62 : decode cX7_canDo 62 = .ok (.aload_n 0, 1) := by decide +kernel
theorem dX7_canDo_63 : decode cX7_canDo 63 = .ok (.getfield 47, 3) := by decide +kernel
theorem dX7_canDo_66 : decode cX7_canDo 66 = .ok (.iload_n 1, 1) := by decide +kernel
theorem dX7_canDo_67 : decode cX7_canDo 67 = .ok (.iaload, 1) := by decide +kernel
theorem dX7_canDo_68 : decode cX7_canDo 68 = .ok (.invokevirtual 71, 3) := by decide +kernel
theorem dX7_canDo_71 : decode cX7_canDo 71 = .ok (.ifCond .ne 7, 3) := by decide +kernel
theorem dX7_canDo_74 : decode cX7_canDo 74 = .ok (.iconst 1, 1) := by decide +kernel
theorem dX7_canDo_75 : decode cX7_canDo 75 = .ok (.goto 4, 3) := by decide +kernel
theorem dX7_canDo_78 : decode cX7_canDo 78 = .ok (.iconst 0, 1) := by decide +kernel
theorem dX7_canDo_79 : decode cX7_canDo 79 = .ok (.ireturn, 1) := by decide +kernel
theorem dX7_doTo_0 : decode cX7_doTo 0 = .ok (.bipush 10, 2) := by decide +kernel
theorem dX7_doTo_2 : decode cX7_doTo 2 = .ok (.iload_n 2, 1) := by decide +kernel
theorem dX7_doTo_3 : decode cX7_doTo 3 = .ok (.imul, 1) := by decide +kernel
theorem dX7_doTo_4 : decode cX7_doTo 4 = .ok (.aload_n 0, 1) := by decide +kernel
theorem dX7_doTo_5 : decode cX7_doTo 5 = .ok (.getfield 44, 3) := by decide +kernel
theorem dX7_doTo_8 : decode cX7_doTo 8 = .ok (.iload_n 1, 1) := by decide +kernel
theorem dX7_doTo_9 : decode cX7_doTo 9 = .ok (.iaload, 1) := by decide +kernel
theorem dX7_doTo_10 : decode cX7_doTo 10 = .ok (.iadd, 1) := by decide +kernel
theorem dX7_doTo_11 : decode cX7_doTo 11 = .ok (.istore_n 3, 1) := by decide +kernel
theorem dX7_doTo_12 : decode cX7_doTo 12 = .ok (.aload_n 0, 1) := by decide +kernel
theorem dX7_doTo_13 : decode cX7_doTo 13 = .ok (.getfield 41, 3) := by decide +kernel
theorem dX7_doTo_16 : decode cX7_doTo 16 = .ok (.iload_n 1, 1) := by decide +kernel
theorem dX7_doTo_17 : decode cX7_doTo 17 = .ok (.iaload, 1) := by decide +kernel
theorem dX7_doTo_18 : decode cX7_doTo 18 = .ok (.tableswitch 148 0 2 #[26, 68, 78], 26) := by decide +kernel
theorem dX7_doTo_44 : decode cX7_doTo 44 = .ok (.aload_n 0, 1) := by decide +kernel
theorem dX7_doTo_45 : decode cX7_doTo 45 = .ok (.getfield 26, 3) := by decide +kernel
theorem dX7_doTo_48 : decode cX7_doTo 48 = .ok (.iload_n 3, 1) := by decide +kernel
theorem dX7_doTo_49 : decode cX7_doTo 49 = .ok (.iconst 1, 1) := by decide +kernel
theorem dX7_doTo_50 : decode cX7_doTo 50 = .ok (.bastore, 1) := by decide +kernel
theorem dX7_doTo_51 : decode cX7_doTo 51 = .ok (.aload_n 0, 1) := by decide +kernel
theorem dX7_doTo_52 : decode cX7_doTo 52 = .ok (.getfield 29, 3) := by decide +kernel
theorem dX7_doTo_55 : decode cX7_doTo 55 = .ok (.iload_n 3, 1) := by decide +kernel
theorem dX7_doTo_56 : decode cX7_doTo 56 = .ok (.aload_n 0, 1) := by decide +kernel
theorem dX7_doTo_57 : decode cX7_doTo 57 = .ok (.getfield 47, 3) := by decide +kernel
theorem dX7_doTo_60 : decode cX7_doTo 60 = .ok (.iload_n 1, 1) := by decide +kernel
theorem dX7_doTo_61 : decode cX7_doTo 61 = .ok (.iaload, 1) := by decide +kernel
theorem dX7_doTo_62 : decode cX7_doTo 62 = .ok (.iastore, 1) := by decide +kernel
theorem dX7_doTo_63 : decode cX7_doTo 63 = .ok (.aload_n 0, 1) := by decide +kernel
theorem dX7_doTo_64 : decode cX7_doTo 64 = .ok (.getfield 32, 3) := by decide +kernel
theorem dX7_doTo_67 : decode cX7_doTo 67 = .ok (.iload_n 3, 1) := by decide +kernel
theorem dX7_doTo_68 : decode cX7_doTo 68 = .ok (.aload_n 0, 1) := by decide +kernel
theorem dX7_doTo_69 : decode cX7_doTo 69 = .ok (.getfield 50, 3) := by decide +kernel
theorem dX7_doTo_72 : decode cX7_doTo 72 = .ok (.iload_n 1, 1) := by decide +kernel
theorem dX7_doTo_73 : decode cX7_doTo 73 = .ok (.iaload, 1) := by decide +kernel
theorem dX7_doTo_74 : decode cX7_doTo 74 = .ok (.iastore, 1) := by decide +kernel
theorem dX7_doTo_75 : decode cX7_doTo 75 = .ok (.aload_n 0, 1) := by decide +kernel
theorem dX7_doTo_76 : decode cX7_doTo 76 = .ok (.getfield 35, 3) := by decide +kernel
theorem dX7_doTo_79 : decode cX7_doTo 79 = .ok (.iload_n 3, 1) := by decide +kernel
theorem dX7_doTo_80 : decode cX7_doTo 80 = .ok (.bipush (-6), 2) := by decide +kernel
theorem dX7_doTo_82 : decode cX7_doTo 82 = .ok (.iastore, 1) := by decide +kernel
theorem dX7_doTo_83 : decode cX7_doTo 83 = .ok (.goto 137, 3) := by decide +kernel
theorem dX7_doTo_86 : decode cX7_doTo 86 = .ok (.aload_n 0, 1) := by decide +kernel
theorem dX7_doTo_87 : decode cX7_doTo 87 = .ok (.getfield 26, 3) := by decide +kernel
theorem dX7_doTo_90 : decode cX7_doTo 90 = .ok (.iload_n 3, 1) := by decide +kernel
theorem dX7_doTo_91 : decode cX7_doTo 91 = .ok (.iconst 0, 1) := by decide +kernel
theorem dX7_doTo_92 : decode cX7_doTo 92 = .ok (.bastore, 1) := by decide +kernel
theorem dX7_doTo_93 : decode cX7_doTo 93 = .ok (.goto 127, 3) := by decide +kernel
theorem dX7_doTo_96 : decode cX7_doTo 96 = .ok (.bipush 10, 2) := by decide +kernel
theorem dX7_doTo_98 : decode cX7_doTo 98 = .ok (.iload_n 2, 1) := by decide +kernel
theorem dX7_doTo_99 : decode cX7_doTo 99 = .ok (.imul, 1) := by decide +kernel
theorem dX7_doTo_100 : decode cX7_doTo 100 = .ok (.aload_n 0, 1) := by decide +kernel
theorem dX7_doTo_101 : decode cX7_doTo 101 = .ok (.getfield 47, 3) := by decide +kernel
theorem dX7_doTo_104 : decode cX7_doTo 104 = .ok (.iload_n 1, 1) := by decide +kernel
theorem dX7_doTo_105 : decode cX7_doTo 105 = .ok (.iaload, 1) := by decide +kernel
theorem dX7_doTo_106 : decode cX7_doTo 106 = .ok (.iadd, 1) := by decide +kernel
theorem dX7_doTo_107 : decode cX7_doTo 107 = .ok (.istore 4, 2) := by decide +kernel
theorem dX7_doTo_109 : decode cX7_doTo 109 = .ok (.aload_n 0, 1) := by decide +kernel
theorem dX7_doTo_110 : decode cX7_doTo 110 = .ok (.getfield 26, 3) := by decide +kernel
theorem dX7_doTo_113 : decode cX7_doTo 113 = .ok (.iload_n 3, 1) := by decide +kernel
theorem dX7_doTo_114 : decode cX7_doTo 114 = .ok (.iconst 0, 1) := by decide +kernel
theorem dX7_doTo_115 : decode cX7_doTo 115 = .ok (.bastore, 1) := by decide +kernel
theorem dX7_doTo_116 : decode cX7_doTo 116 = .ok (.aload_n 0, 1) := by decide +kernel
theorem dX7_doTo_117 : decode cX7_doTo 117 = .ok (.getfield 26, 3) := by decide +kernel
theorem dX7_doTo_120 : decode cX7_doTo 120 = .ok (.iload 4, 2) := by decide +kernel
theorem dX7_doTo_122 : decode cX7_doTo 122 = .ok (.iconst 1, 1) := by decide +kernel
theorem dX7_doTo_123 : decode cX7_doTo 123 = .ok (.bastore, 1) := by decide +kernel
theorem dX7_doTo_124 : decode cX7_doTo 124 = .ok (.aload_n 0, 1) := by decide +kernel
theorem dX7_doTo_125 : decode cX7_doTo 125 = .ok (.getfield 29, 3) := by decide +kernel
theorem dX7_doTo_128 : decode cX7_doTo 128 = .ok (.iload 4, 2) := by decide +kernel
theorem dX7_doTo_130 : decode cX7_doTo 130 = .ok (.aload_n 0, 1) := by decide +kernel
theorem dX7_doTo_131 : decode cX7_doTo 131 = .ok (.getfield 29, 3) := by decide +kernel
theorem dX7_doTo_134 : decode cX7_doTo 134 = .ok (.iload_n 3, 1) := by decide +kernel
theorem dX7_doTo_135 : decode cX7_doTo 135 = .ok (.iaload, 1) := by decide +kernel
theorem dX7_doTo_136 : decode cX7_doTo 136 = .ok (.iastore, 1) := by decide +kernel
theorem dX7_doTo_137 : decode cX7_doTo 137 = .ok (.aload_n 0, 1) := by decide +kernel
theorem dX7_doTo_138 : decode cX7_doTo 138 = .ok (.getfield 32, 3) := by decide +kernel
theorem dX7_doTo_141 : decode cX7_doTo 141 = .ok (.iload 4, 2) := by decide +kernel
theorem dX7_doTo_143 : decode cX7_doTo 143 = .ok (.aload_n 0, 1) := by decide +kernel
theorem dX7_doTo_144 : decode cX7_doTo 144 = .ok (.getfield 32, 3) := by decide +kernel
theorem dX7_doTo_147 : decode cX7_doTo 147 = .ok (.iload_n 3, 1) := by decide +kernel
theorem dX7_doTo_148 : decode cX7_doTo 148 = .ok (.iaload, 1) := by decide +kernel
theorem dX7_doTo_149 : decode cX7_doTo 149 = .ok (.iastore, 1) := by decide +kernel
theorem dX7_doTo_150 : decode cX7_doTo 150 = .ok (.aload_n 0, 1) := by decide +kernel
theorem dX7_doTo_151 : decode cX7_doTo 151 = .ok (.getfield 35, 3) := by decide +kernel
theorem dX7_doTo_154 : decode cX7_doTo 154 = .ok (.iload 4, 2) := by decide +kernel
theorem dX7_doTo_156 : decode cX7_doTo 156 = .ok (.aload_n 0, 1) := by decide +kernel
theorem dX7_doTo_157 : decode cX7_doTo 157 = .ok (.getfield 35, 3) := by decide +kernel
theorem dX7_doTo_160 : decode cX7_doTo 160 = .ok (.iload_n 3, 1) := by decide +kernel
theorem dX7_doTo_161 : decode cX7_doTo 161 = .ok (.iaload, 1) := by decide +kernel
theorem dX7_doTo_162 : decode cX7_doTo 162 = .ok (.iastore, 1) := by decide +kernel
theorem dX7_doTo_163 : decode cX7_doTo 163 = .ok (.goto 57, 3) := by decide +kernel
theorem dX7_doTo_166 : decode cX7_doTo 166 = .ok (.aload_n 0, 1) := by decide +kernel
theorem dX7_doTo_167 : decode cX7_doTo 167 = .ok (.getfield 29, 3) := by decide +kernel
theorem dX7_doTo_170 : decode cX7_doTo 170 = .ok (.iload_n 3, 1) := by decide +kernel
theorem dX7_doTo_171 : decode cX7_doTo 171 = .ok (.aload_n 0, 1) := by decide +kernel
theorem dX7_doTo_172 : decode cX7_doTo 172 = .ok (.getfield 41, 3) := by decide +kernel
theorem dX7_doTo_175 : decode cX7_doTo 175 = .ok (.iload_n 1, 1) := by decide +kernel
theorem dX7_doTo_176 : decode cX7_doTo 176 = .ok (.iaload, 1) := by decide +kernel
theorem dX7_doTo_177 : decode cX7_doTo 177 = .ok (.aload_n 0, 1) := by decide +kernel
theorem dX7_doTo_178 : decode cX7_doTo 178 = .ok (.getfield 29, 3) := by decide +kernel
theorem dX7_doTo_181 : decode cX7_doTo 181 = .ok (.iload_n 3, 1) := by decide +kernel
theorem dX7_doTo_182 : decode cX7_doTo 182 = .ok (.iaload, 1) := by decide +kernel
theorem dX7_doTo_183 : decode cX7_doTo 183 = .ok (.aload_n 0, 1) := by decide +kernel
theorem dX7_doTo_184 : decode cX7_doTo 184 = .ok (.getfield 47, 3) := by decide +kernel
theorem dX7_doTo_187 : decode cX7_doTo 187 = .ok (.iload_n 1, 1) := by decide +kernel
theorem dX7_doTo_188 : decode cX7_doTo 188 = .ok (.iaload, 1) := by decide +kernel
theorem dX7_doTo_189 : decode cX7_doTo 189 = .ok (.invokestatic 75, 3) := by decide +kernel
theorem dX7_doTo_192 : decode cX7_doTo 192 = .ok (.iastore, 1) := by decide +kernel
theorem dX7_doTo_193 : decode cX7_doTo 193 = .ok (.aload_n 0, 1) := by decide +kernel
theorem dX7_doTo_194 : decode cX7_doTo 194 = .ok (.getfield 32, 3) := by decide +kernel
theorem dX7_doTo_197 : decode cX7_doTo 197 = .ok (.iload_n 3, 1) := by decide +kernel
theorem dX7_doTo_198 : decode cX7_doTo 198 = .ok (.aload_n 0, 1) := by decide +kernel
theorem dX7_doTo_199 : decode cX7_doTo 199 = .ok (.getfield 41, 3) := by decide +kernel
theorem dX7_doTo_202 : decode cX7_doTo 202 = .ok (.iload_n 1, 1) := by decide +kernel
theorem dX7_doTo_203 : decode cX7_doTo 203 = .ok (.iaload, 1) := by decide +kernel
theorem dX7_doTo_204 : decode cX7_doTo 204 = .ok (.aload_n 0, 1) := by decide +kernel
theorem dX7_doTo_205 : decode cX7_doTo 205 = .ok (.getfield 32, 3) := by decide +kernel
theorem dX7_doTo_208 : decode cX7_doTo 208 = .ok (.iload_n 3, 1) := by decide +kernel
theorem dX7_doTo_209 : decode cX7_doTo 209 = .ok (.iaload, 1) := by decide +kernel
theorem dX7_doTo_210 : decode cX7_doTo 210 = .ok (.aload_n 0, 1) := by decide +kernel
theorem dX7_doTo_211 : decode cX7_doTo 211 = .ok (.getfield 47, 3) := by decide +kernel
theorem dX7_doTo_214 : decode cX7_doTo 214 = .ok (.iload_n 1, 1) := by decide +kernel
theorem dX7_doTo_215 : decode cX7_doTo 215 = .ok (.iaload, 1) := by decide +kernel
theorem dX7_doTo_216 : decode cX7_doTo 216 = .ok (.invokestatic 75, 3) := by decide +kernel
theorem dX7_doTo_219 : decode cX7_doTo 219 = .ok (.iastore, 1) := by decide +kernel
theorem dX7_doTo_220 : decode cX7_doTo 220 = .ok (.return_, 1) := by decide +kernel
theorem dX7_copyLayout_0 : decode cX7_copyLayout 0 = .ok (.iconst 0, 1) := by decide +kernel
theorem dX7_copyLayout_1 : decode cX7_copyLayout 1 = .ok (.istore_n 2, 1) := by decide +kernel
theorem dX7_copyLayout_2 : decode cX7_copyLayout 2 = .ok (.iload_n 2, 1) := by decide +kernel
theorem dX7_copyLayout_3 : decode cX7_copyLayout 3 = .ok (.bipush 10, 2) := by decide +kernel
theorem dX7_copyLayout_5 : decode cX7_copyLayout 5 = .ok (.if_icmp .ge 96, 3) := by decide +kernel
theorem dX7_copyLayout_8 : decode cX7_copyLayout 8 = .ok (.bipush 10, 2) := by decide +kernel
theorem dX7_copyLayout_10 : decode cX7_copyLayout 10 = .ok (.iload_n 1, 1) := by decide +kernel
theorem dX7_copyLayout_11 : decode cX7_copyLayout 11 = .ok (.imul, 1) := by decide +kernel
theorem dX7_copyLayout_12 : decode cX7_copyLayout 12 = .ok (.iload_n 2, 1) := by decide +kernel
theorem dX7_copyLayout_13 : decode cX7_copyLayout 13 = .ok (.iadd, 1) := by decide +kernel
theorem dX7_copyLayout_14 : decode cX7_copyLayout 14 = .ok (.istore_n 3, 1) := by decide +kernel
theorem dX7_copyLayout_15 : decode cX7_copyLayout 15 = .ok (.aload_n 0, 1) := by decide +kernel
theorem dX7_copyLayout_16 : decode cX7_copyLayout 16 = .ok (.getfield 26, 3) := by decide +kernel
theorem dX7_copyLayout_19 : decode cX7_copyLayout 19 = .ok (.iload_n 3, 1) := by decide +kernel
theorem dX7_copyLayout_20 : decode cX7_copyLayout 20 = .ok (.iload_n 1, 1) := by decide +kernel
theorem dX7_copyLayout_21 : decode cX7_copyLayout 21 = .ok (.ifCond .le 19, 3) := by decide +kernel
theorem dX7_copyLayout_24 : decode cX7_copyLayout 24 = .ok (.aload_n 0, 1) := by decide +kernel
theorem dX7_copyLayout_25 : decode cX7_copyLayout 25 = .ok (.getfield 26, 3) := by decide +kernel
theorem dX7_copyLayout_28 : decode cX7_copyLayout 28 = .ok (.iload_n 3, 1) := by decide +kernel
theorem dX7_copyLayout_29 : decode cX7_copyLayout 29 = .ok (.bipush 10, 2) := by decide +kernel
theorem dX7_copyLayout_31 : decode cX7_copyLayout 31 = .ok (.isub, 1) := by decide +kernel
theorem dX7_copyLayout_32 : decode cX7_copyLayout 32 = .ok (.baload, 1) := by decide +kernel
theorem dX7_copyLayout_33 : decode cX7_copyLayout 33 = .ok (.ifCond .eq 7, 3) := by decide +kernel
theorem dX7_copyLayout_36 : decode cX7_copyLayout 36 = .ok (.iconst 1, 1) := by decide +kernel
theorem dX7_copyLayout_37 : decode cX7_copyLayout 37 = .ok (.goto 4, 3) := by decide +kernel
theorem dX7_copyLayout_40 : decode cX7_copyLayout 40 = .ok (.iconst 0, 1) := by decide +kernel
theorem dX7_copyLayout_41 : decode cX7_copyLayout 41 = .ok (.bastore, 1) := by decide +kernel
theorem dX7_copyLayout_42 : decode cX7_copyLayout 42 = .ok (.aload_n 0, 1) := by decide +kernel
theorem dX7_copyLayout_43 : decode cX7_copyLayout 43 = .ok (.getfield 29, 3) := by decide +kernel
theorem dX7_copyLayout_46 : decode cX7_copyLayout 46 = .ok (.iload_n 3, 1) := by decide +kernel
theorem dX7_copyLayout_47 : decode cX7_copyLayout 47 = .ok (.iload_n 1, 1) := by decide +kernel
theorem dX7_copyLayout_48 : decode cX7_copyLayout 48 = .ok (.ifCond .le 15, 3) := by decide +kernel
theorem dX7_copyLayout_51 : decode cX7_copyLayout 51 = .ok (.aload_n 0, 1) := by decide +kernel
theorem dX7_copyLayout_52 : decode cX7_copyLayout 52 = .ok (.getfield 29, 3) := by decide +kernel
theorem dX7_copyLayout_55 : decode cX7_copyLayout 55 = .ok (.iload_n 3, 1) := by decide +kernel
theorem dX7_copyLayout_56 : decode cX7_copyLayout 56 = .ok (.bipush 10, 2) := by decide +kernel
theorem dX7_copyLayout_58 : decode cX7_copyLayout 58 = .ok (.isub, 1) := by decide +kernel
theorem dX7_copyLayout_59 : decode cX7_copyLayout 59 = .ok (.iaload, 1) := by decide +kernel
theorem dX7_copyLayout_60 : decode cX7_copyLayout 60 = .ok (.goto 4, 3) := by decide +kernel
theorem dX7_copyLayout_63 : decode cX7_copyLayout 63 = .ok (.iconst 0, 1) := by decide +kernel
theorem dX7_copyLayout_64 : decode cX7_copyLayout 64 = .ok (.iastore, 1) := by decide +kernel
theorem dX7_copyLayout_65 : decode cX7_copyLayout 65 = .ok (.aload_n 0, 1) := by decide +kernel
theorem dX7_copyLayout_66 : decode cX7_copyLayout 66 = .ok (.getfield 32, 3) := by decide +kernel
theorem dX7_copyLayout_69 : decode cX7_copyLayout 69 = .ok (.iload_n 3, 1) := by decide +kernel
theorem dX7_copyLayout_70 : decode cX7_copyLayout 70 = .ok (.iload_n 1, 1) := by decide +kernel
theorem dX7_copyLayout_71 : decode cX7_copyLayout 71 = .ok (.ifCond .le 15, 3) := by decide +kernel
theorem dX7_copyLayout_74 : decode cX7_copyLayout 74 = .ok (.aload_n 0, 1) := by decide +kernel
theorem dX7_copyLayout_75 : decode cX7_copyLayout 75 = .ok (.getfield 32, 3) := by decide +kernel
theorem dX7_copyLayout_78 : decode cX7_copyLayout 78 = .ok (.iload_n 3, 1) := by decide +kernel
theorem dX7_copyLayout_79 : decode cX7_copyLayout 79 = .ok (.bipush 10, 2) := by decide +kernel
theorem dX7_copyLayout_81 : decode cX7_copyLayout 81 = .ok (.isub, 1) := by decide +kernel
theorem dX7_copyLayout_82 : decode cX7_copyLayout 82 = .ok (.iaload, 1) := by decide +kernel
theorem dX7_copyLayout_83 : decode cX7_copyLayout 83 = .ok (.goto 4, 3) := by decide +kernel
theorem dX7_copyLayout_86 : decode cX7_copyLayout 86 = .ok (.iconst 0, 1) := by decide +kernel
theorem dX7_copyLayout_87 : decode cX7_copyLayout 87 = .ok (.iastore, 1) := by decide +kernel
theorem dX7_copyLayout_88 : decode cX7_copyLayout 88 = .ok (.aload_n 0, 1) := by decide +kernel
theorem dX7_copyLayout_89 : decode cX7_copyLayout 89 = .ok (.getfield 35, 3) := by decide +kernel
theorem dX7_copyLayout_92 : decode cX7_copyLayout 92 = .ok (.iload_n 3, 1) := by decide +kernel
theorem dX7_copyLayout_93 : decode cX7_copyLayout 93 = .ok (.iload_n 2, 1) := by decide +kernel
theorem dX7_copyLayout_94 : decode cX7_copyLayout 94 = .ok (.iastore, 1) := by decide +kernel
theorem dX7_copyLayout_95 : decode cX7_copyLayout 95 = .ok (.iinc 2 1, 3) := by decide +kernel
theorem dX7_copyLayout_98 : decode cX7_copyLayout 98 = .ok (.goto (-96), 3) := by decide +kernel
theorem dX7_copyLayout_101 : decode cX7_copyLayout 101 = .ok (.return_, 1) := by decide +kernel
theorem dX7_define_0 : decode cX7_define 0 = .ok (.aload_n 0, 1) := by decide +kernel
theorem dX7_define_1 : decode cX7_define 1 = .ok (.getfield 59, 3) := by decide +kernel
theorem dX7_define_4 : decode cX7_define 4 = .ok (.bipush 6, 2) := by decide +kernel
theorem dX7_define_6 : decode cX7_define 6 = .ok (.if_icmp .ge 13, 3) := by decide +kernel
theorem dX7_define_9 : decode cX7_define 9 = .ok (.aload_n 0, 1) := by decide +kernel
theorem dX7_define_10 : decode cX7_define 10 = .ok (.getfield 38, 3) := by decide +kernel
theorem dX7_define_13 : decode cX7_define 13 = .ok (.aload_n 0, 1) := by decide +kernel
theorem dX7_define_14 : decode cX7_define 14 = .ok (.getfield 59, 3) := by decide +kernel
theorem dX7_define_17 : decode cX7_define 17 = .ok (.iconst 0, 1) := by decide +kernel
theorem dX7_define_18 : decode cX7_define 18 = .ok (.iastore, 1) := by decide +kernel
theorem dX7_define_19 : decode cX7_define 19 = .ok (.aload_n 0, 1) := by decide +kernel
theorem dX7_define_20 : decode cX7_define 20 = .ok (.aload_n 0, 1) := by decide +kernel
theorem dX7_define_21 : decode cX7_define 21 = .ok (.getfield 59, 3) := by decide +kernel
theorem dX7_define_24 : decode cX7_define 24 = .ok (.invokevirtual 79, 3) := by decide +kernel
theorem dX7_define_27 : decode cX7_define 27 = .ok (.bipush (-6), 2) := by decide +kernel
theorem dX7_define_29 : decode cX7_define 29 = .ok (.if_icmp .eq 6, 3) := by decide +kernel
theorem dX7_define_32 : decode cX7_define 32 = .ok (.bipush (-3), 2) := by decide +kernel
theorem dX7_define_34 : decode cX7_define 34 = .ok (.ireturn, 1) := by decide +kernel
theorem dX7_define_35 : decode cX7_define 35 = .ok (.aload_n 0, 1) := by decide +kernel
theorem dX7_define_36 : decode cX7_define 36 = .ok (.getfield 59, 3) := by decide +kernel
theorem dX7_define_39 : decode cX7_define 39 = .ok (.bipush 6, 2) := by decide +kernel
theorem dX7_define_41 : decode cX7_define 41 = .ok (.if_icmp .ne 6, 3) := by decide +kernel
theorem dX7_define_44 : decode cX7_define 44 = .ok (.bipush (-4), 2) := by decide +kernel
theorem dX7_define_46 : decode cX7_define 46 = .ok (.ireturn, 1) := by decide +kernel
theorem dX7_define_47 : decode cX7_define 47 = .ok (.aload_n 0, 1) := by decide +kernel
theorem dX7_define_48 : decode cX7_define 48 = .ok (.aload_n 0, 1) := by decide +kernel
theorem dX7_define_49 : decode cX7_define 49 = .ok (.getfield 59, 3) := by decide +kernel
theorem dX7_define_52 : decode cX7_define 52 = .ok (.invokevirtual 83, 3) := by decide +kernel
theorem dX7_define_55 : decode cX7_define 55 = .ok (.iconst 0, 1) := by decide +kernel
theorem dX7_define_56 : decode cX7_define 56 = .ok (.istore_n 1, 1) := by decide +kernel
theorem dX7_define_57 : decode cX7_define 57 = .ok (.iload_n 1, 1) := by decide +kernel
theorem dX7_define_58 : decode cX7_define 58 = .ok (.aload_n 0, 1) := by decide +kernel
theorem dX7_define_59 : decode cX7_define 59 = .ok (.getfield 38, 3) := by decide +kernel
theorem dX7_define_62 : decode cX7_define 62 = .ok (.aload_n 0, 1) := by decide +kernel
theorem dX7_define_63 : decode cX7_define 63 = .ok (.getfield 59, 3) := by decide +kernel
theorem dX7_define_66 : decode cX7_define 66 = .ok (.iaload, 1) := by decide +kernel
theorem dX7_define_67 : decode cX7_define 67 = .ok (.if_icmp .ge 43, 3) := by decide +kernel
theorem dX7_define_70 : decode cX7_define 70 = .ok (.bipush 28, 2) := by decide +kernel
theorem dX7_define_72 : decode cX7_define 72 = .ok (.aload_n 0, 1) := by decide +kernel
theorem dX7_define_73 : decode cX7_define 73 = .ok (.getfield 59, 3) := by decide +kernel
theorem dX7_define_76 : decode cX7_define 76 = .ok (.imul, 1) := by decide +kernel
theorem dX7_define_77 : decode cX7_define 77 = .ok (.iload_n 1, 1) := by decide +kernel
theorem dX7_define_78 : decode cX7_define 78 = .ok (.iadd, 1) := by decide +kernel
theorem dX7_define_79 : decode cX7_define 79 = .ok (.istore_n 2, 1) := by decide +kernel
theorem dX7_define_80 : decode cX7_define 80 = .ok (.aload_n 0, 1) := by decide +kernel
theorem dX7_define_81 : decode cX7_define 81 = .ok (.iload_n 2, 1) := by decide +kernel
theorem dX7_define_82 : decode cX7_define 82 = .ok (.aload_n 0, 1) := by decide +kernel
theorem dX7_define_83 : decode cX7_define 83 = .ok (.getfield 59, 3) := by decide +kernel
theorem dX7_define_86 : decode cX7_define 86 = .ok (.invokevirtual 87, 3) := by decide +kernel
theorem dX7_define_89 : decode cX7_define 89 = .ok (.ifCond .ne 6, 3) := by decide +kernel
theorem dX7_define_92 : decode cX7_define 92 = .ok (.bipush (-5), 2) := by decide +kernel
theorem dX7_define_94 : decode cX7_define 94 = .ok (.ireturn, 1) := by decide +kernel
theorem dX7_define_95 : decode cX7_define 95 = .ok (.aload_n 0, 1) := by decide +kernel
theorem dX7_define_96 : decode cX7_define 96 = .ok (.iload_n 2, 1) := by decide +kernel
theorem dX7_define_97 : decode cX7_define 97 = .ok (.aload_n 0, 1) := by decide +kernel
theorem dX7_define_98 : decode cX7_define 98 = .ok (.getfield 59, 3) := by decide +kernel
theorem dX7_define_101 : decode cX7_define 101 = .ok (.invokevirtual 90, 3) := by decide +kernel
theorem dX7_define_104 : decode cX7_define 104 = .ok (.iinc 1 1, 3) := by decide +kernel
theorem dX7_define_107 : decode cX7_define 107 = .ok (.goto (-50), 3) := by decide +kernel
theorem dX7_define_110 : decode cX7_define 110 = .ok (.aload_n 0, 1) := by decide +kernel
theorem dX7_define_111 : decode cX7_define 111 = .ok (.iconst 0, 1) := by decide +kernel
theorem dX7_define_112 : decode cX7_define 112 = .ok (.putfield 94, 3) := by decide +kernel
theorem dX7_define_115 : decode cX7_define 115 = .ok (.aload_n 0, 1) := by decide +kernel
theorem dX7_define_116 : decode cX7_define 116 = .ok (.dup, 1) := by decide +kernel
theorem dX7_define_117 : decode cX7_define 117 = .ok (.getfield 59, 3) := by decide +kernel
theorem dX7_define_120 : decode cX7_define 120 = .ok (.iconst 1, 1) := by decide +kernel
theorem dX7_define_121 : decode cX7_define 121 = .ok (.iadd, 1) := by decide +kernel
theorem dX7_define_122 : decode cX7_define 122 = .ok (.putfield 59, 3) := by decide +kernel
theorem dX7_define_125 : decode cX7_define 125 = .ok (.aload_n 0, 1) := by decide +kernel
theorem dX7_define_126 : decode cX7_define 126 = .ok (.getfield 59, 3) := by decide +kernel
theorem dX7_define_129 : decode cX7_define 129 = .ok (.iconst 1, 1) := by decide +kernel
theorem dX7_define_130 : decode cX7_define 130 = .ok (.isub, 1) := by decide +kernel
theorem dX7_define_131 : decode cX7_define 131 = .ok (.ireturn, 1) := by decide +kernel
theorem dX7_layout_0 : decode cX7_layout 0 = .ok (.aload_n 0, 1) := by decide +kernel
theorem dX7_layout_1 : decode cX7_layout 1 = .ok (.iload_n 1, 1) := by decide +kernel
theorem dX7_layout_2 : decode cX7_layout 2 = .ok (.invokevirtual 97, 3) := by decide +kernel
theorem dX7_layout_5 : decode cX7_layout 5 = .ok (.ifCond .eq 12, 3) := by decide +kernel
theorem dX7_layout_8 : decode cX7_layout 8 = .ok (.aload_n 0, 1) := by decide +kernel
theorem dX7_layout_9 : decode cX7_layout 9 = .ok (.iload_n 1, 1) := by decide +kernel
theorem dX7_layout_10 : decode cX7_layout 10 = .ok (.iload_n 2, 1) := by decide +kernel
theorem dX7_layout_11 : decode cX7_layout 11 = .ok (.invokevirtual 71, 3) := by decide +kernel
theorem dX7_layout_14 : decode cX7_layout 14 = .ok (.ifCond .ne 5, 3) := by decide +kernel
theorem dX7_layout_17 : decode cX7_layout 17 = .ok (.iconst (-1), 1) := by decide +kernel
theorem dX7_layout_18 : decode cX7_layout 18 = .ok (.ireturn, 1) := by decide +kernel
theorem dX7_layout_19 : decode cX7_layout 19 = .ok (.bipush 10, 2) := by decide +kernel
theorem dX7_layout_21 : decode cX7_layout 21 = .ok (.iload_n 1, 1) := by decide +kernel
theorem dX7_layout_22 : decode cX7_layout 22 = .ok (.imul, 1) := by decide +kernel
theorem dX7_layout_23 : decode cX7_layout 23 = .ok (.iload_n 2, 1) := by decide +kernel
theorem dX7_layout_24 : decode cX7_layout 24 = .ok (.iadd, 1) := by decide +kernel
theorem dX7_layout_25 : decode cX7_layout 25 = .ok (.istore 4, 2) := by decide +kernel
theorem dX7_layout_27 : decode cX7_layout 27 = .ok (.iload_n 3, 1) := by decide +kernel
theorem dX7_layout_28 : decode cX7_layout 28 = .ok (.ifCond .ne 13, 3) := by decide +kernel
theorem dX7_layout_31 : decode cX7_layout 31 = .ok (.aload_n 0, 1) := by decide +kernel
theorem dX7_layout_32 : decode cX7_layout 32 = .ok (.getfield 29, 3) := by decide +kernel
theorem dX7_layout_35 : decode cX7_layout 35 = .ok (.iload 4, 2) := by decide +kernel
theorem dX7_layout_37 : decode cX7_layout 37 = .ok (.iaload, 1) := by decide +kernel
theorem dX7_layout_38 : decode cX7_layout 38 = .ok (.goto 35, 3) := by decide +kernel
theorem dX7_layout_41 : decode cX7_layout 41 = .ok (.iload_n 3, 1) := by decide +kernel
theorem dX7_layout_42 : decode cX7_layout 42 = .ok (.iconst 1, 1) := by decide +kernel
theorem dX7_layout_43 : decode cX7_layout 43 = .ok (.if_icmp .ne 13, 3) := by decide +kernel
theorem dX7_layout_46 : decode cX7_layout 46 = .ok (.aload_n 0, 1) := by decide +kernel
theorem dX7_layout_47 : decode cX7_layout 47 = .ok (.getfield 32, 3) := by decide +kernel
theorem dX7_layout_50 : decode cX7_layout 50 = .ok (.iload 4, 2) := by decide +kernel
theorem dX7_layout_52 : decode cX7_layout 52 = .ok (.iaload, 1) := by decide +kernel
theorem dX7_layout_53 : decode cX7_layout 53 = .ok (.goto 20, 3) := by decide +kernel
theorem dX7_layout_56 : decode cX7_layout 56 = .ok (.iload_n 3, 1) := by decide +kernel
theorem dX7_layout_57 : decode cX7_layout 57 = .ok (.iconst 2, 1) := by decide +kernel
theorem dX7_layout_58 : decode cX7_layout 58 = .ok (.if_icmp .ne 13, 3) := by decide +kernel
theorem dX7_layout_61 : decode cX7_layout 61 = .ok (.aload_n 0, 1) := by decide +kernel
theorem dX7_layout_62 : decode cX7_layout 62 = .ok (.getfield 35, 3) := by decide +kernel
theorem dX7_layout_65 : decode cX7_layout 65 = .ok (.iload 4, 2) := by decide +kernel
theorem dX7_layout_67 : decode cX7_layout 67 = .ok (.iaload, 1) := by decide +kernel
theorem dX7_layout_68 : decode cX7_layout 68 = .ok (.goto 5, 3) := by decide +kernel
theorem dX7_layout_71 : decode cX7_layout 71 = .ok (.bipush (-2), 2) := by decide +kernel
theorem dX7_layout_73 : decode cX7_layout 73 = .ok (.ireturn, 1) := by decide +kernel
theorem dX7_cellOf_0 : decode cX7_cellOf 0 = .ok (.aload_n 0, 1) := by decide +kernel
theorem dX7_cellOf_1 : decode cX7_cellOf 1 = .ok (.getfield 7, 3) := by decide +kernel
theorem dX7_cellOf_4 : decode cX7_cellOf 4 = .ok (.bipush 21, 2) := by decide +kernel
theorem dX7_cellOf_6 : decode cX7_cellOf 6 = .ok (.bipush 48, 2) := by decide +kernel
theorem dX7_cellOf_8 : decode cX7_cellOf 8 = .ok (.iload_n 1, 1) := by decide +kernel
theorem dX7_cellOf_9 : decode cX7_cellOf 9 = .ok (.imul, 1) := by decide +kernel
theorem dX7_cellOf_10 : decode cX7_cellOf 10 = .ok (.iadd, 1) := by decide +kernel
theorem dX7_cellOf_11 : decode cX7_cellOf 11 = .ok (.iload_n 2, 1) := by decide +kernel
theorem dX7_cellOf_12 : decode cX7_cellOf 12 = .ok (.iadd, 1) := by decide +kernel
theorem dX7_cellOf_13 : decode cX7_cellOf 13 = .ok (.iaload, 1) := by decide +kernel
theorem dX7_cellOf_14 : decode cX7_cellOf 14 = .ok (.ireturn, 1) := by decide +kernel
theorem dX7_write_0 : decode cX7_write 0 = .ok (.aload_n 0, 1) := by decide +kernel
theorem dX7_write_1 : decode cX7_write 1 = .ok (.getfield 7, 3) := by decide +kernel
theorem dX7_write_4 : decode cX7_write 4 = .ok (.iconst 0, 1) := by decide +kernel
theorem dX7_write_5 : decode cX7_write 5 = .ok (.iaload, 1) := by decide +kernel
theorem dX7_write_6 : decode cX7_write 6 = .ok (.iconst 1, 1) := by decide +kernel
theorem dX7_write_7 : decode cX7_write 7 = .ok (.if_icmp .ne 27, 3) := by decide +kernel
theorem dX7_write_10 : decode cX7_write 10 = .ok (.aload_n 0, 1) := by decide +kernel
theorem dX7_write_11 : decode cX7_write 11 = .ok (.getfield 7, 3) := by decide +kernel
theorem dX7_write_14 : decode cX7_write 14 = .ok (.iconst 1, 1) := by decide +kernel
theorem dX7_write_15 : decode cX7_write 15 = .ok (.iaload, 1) := by decide +kernel
theorem dX7_write_16 : decode cX7_write 16 = .ok (.ifCond .ne 18, 3) := by decide +kernel
theorem dX7_write_19 : decode cX7_write 19 = .ok (.aload_n 0, 1) := by decide +kernel
theorem dX7_write_20 : decode cX7_write 20 = .ok (.getfield 7, 3) := by decide +kernel
theorem dX7_write_23 : decode cX7_write 23 = .ok (.iconst 0, 1) := by decide +kernel
theorem dX7_write_24 : decode cX7_write 24 = .ok (.iconst 0, 1) := by decide +kernel
theorem dX7_write_25 : decode cX7_write 25 = .ok (.iastore, 1) := by decide +kernel
theorem dX7_write_26 : decode cX7_write 26 = .ok (.aload_n 0, 1) := by decide +kernel
theorem dX7_write_27 : decode cX7_write 27 = .ok (.getfield 7, 3) := by decide +kernel
theorem dX7_write_30 : decode cX7_write 30 = .ok (.iconst 1, 1) := by decide +kernel
theorem dX7_write_31 : decode cX7_write 31 = .ok (.bipush (-6), 2) := by decide +kernel
theorem dX7_write_33 : decode cX7_write 33 = .ok (.iastore, 1) := by decide +kernel
theorem dX7_write_34 : decode cX7_write 34 = .ok (.aload_n 0, 1) := by decide +kernel
theorem dX7_write_35 : decode cX7_write 35 = .ok (.getfield 7, 3) := by decide +kernel
theorem dX7_write_38 : decode cX7_write 38 = .ok (.iconst 0, 1) := by decide +kernel
theorem dX7_write_39 : decode cX7_write 39 = .ok (.iaload, 1) := by decide +kernel
theorem dX7_write_40 : decode cX7_write 40 = .ok (.iconst 1, 1) := by decide +kernel
theorem dX7_write_41 : decode cX7_write 41 = .ok (.if_icmp .ne 64, 3) := by decide +kernel
theorem dX7_write_44 : decode cX7_write 44 = .ok (.aload_n 0, 1) := by decide +kernel
theorem dX7_write_45 : decode cX7_write 45 = .ok (.getfield 7, 3) := by decide +kernel
theorem dX7_write_48 : decode cX7_write 48 = .ok (.iconst 1, 1) := by decide +kernel
theorem dX7_write_49 : decode cX7_write 49 = .ok (.dup2, 1) := by decide +kernel
theorem dX7_write_50 : decode cX7_write 50 = .ok (.iaload, 1) := by decide +kernel
theorem dX7_write_51 : decode cX7_write 51 = .ok (.aload_n 0, 1) := by decide +kernel
theorem dX7_write_52 : decode cX7_write 52 = .ok (.getfield 7, 3) := by decide +kernel
theorem dX7_write_55 : decode cX7_write 55 = .ok (.iconst 1, 1) := by decide +kernel
theorem dX7_write_56 : decode cX7_write 56 = .ok (.iaload, 1) := by decide +kernel
theorem dX7_write_57 : decode cX7_write 57 = .ok (.ifCond .le 7, 3) := by decide +kernel
theorem dX7_write_60 : decode cX7_write 60 = .ok (.iconst 1, 1) := by decide +kernel
theorem dX7_write_61 : decode cX7_write 61 = .ok (.goto 4, 3) := by decide +kernel
theorem dX7_write_64 : decode cX7_write 64 = .ok (.iconst 0, 1) := by decide +kernel
theorem dX7_write_65 : decode cX7_write 65 = .ok (.isub, 1) := by decide +kernel
theorem dX7_write_66 : decode cX7_write 66 = .ok (.iastore, 1) := by decide +kernel
theorem dX7_write_67 : decode cX7_write 67 = .ok (.aload_n 0, 1) := by decide +kernel
theorem dX7_write_68 : decode cX7_write 68 = .ok (.getfield 7, 3) := by decide +kernel
theorem dX7_write_71 : decode cX7_write 71 = .ok (.bipush 21, 2) := by decide +kernel
theorem dX7_write_73 : decode cX7_write 73 = .ok (.bipush 48, 2) := by decide +kernel
theorem dX7_write_75 : decode cX7_write 75 = .ok (.iload_n 1, 1) := by decide +kernel
theorem dX7_write_76 : decode cX7_write 76 = .ok (.imul, 1) := by decide +kernel
theorem dX7_write_77 : decode cX7_write 77 = .ok (.iadd, 1) := by decide +kernel
theorem dX7_write_78 : decode cX7_write 78 = .ok (.iload_n 2, 1) := by decide +kernel
theorem dX7_write_79 : decode cX7_write 79 = .ok (.iadd, 1) := by decide +kernel
theorem dX7_write_80 : decode cX7_write 80 = .ok (.iload_n 3, 1) := by decide +kernel
theorem dX7_write_81 : decode cX7_write 81 = .ok (.iastore, 1) := by decide +kernel
theorem dX7_write_82 : decode cX7_write 82 = .ok (.aload_n 0, 1) := by decide +kernel
theorem dX7_write_83 : decode cX7_write 83 = .ok (.getfield 7, 3) := by decide +kernel
theorem dX7_write_86 : decode cX7_write 86 = .ok (.bipush 7, 2) := by decide +kernel
theorem dX7_write_88 : decode cX7_write 88 = .ok (.iload_n 1, 1) := by decide +kernel
theorem dX7_write_89 : decode cX7_write 89 = .ok (.iadd, 1) := by decide +kernel
theorem dX7_write_90 : decode cX7_write 90 = .ok (.dup2, 1) := by decide +kernel
theorem dX7_write_91 : decode cX7_write 91 = .ok (.iaload, 1) := by decide +kernel
theorem dX7_write_92 : decode cX7_write 92 = .ok (.iconst 1, 1) := by decide +kernel
theorem dX7_write_93 : decode cX7_write 93 = .ok (.iadd, 1) := by decide +kernel
theorem dX7_write_94 : decode cX7_write 94 = .ok (.iastore, 1) := by decide +kernel
theorem dX7_write_95 : decode cX7_write 95 = .ok (.aload_n 0, 1) := by decide +kernel
theorem dX7_write_96 : decode cX7_write 96 = .ok (.dup, 1) := by decide +kernel
theorem dX7_write_97 : decode cX7_write 97 = .ok (.getfield 101, 3) := by decide +kernel
theorem dX7_write_100 : decode cX7_write 100 = .ok (.iconst 1, 1) := by decide +kernel
theorem dX7_write_101 : decode cX7_write 101 = .ok (.iadd, 1) := by decide +kernel
theorem dX7_write_102 : decode cX7_write 102 = .ok (.putfield 101, 3) := by decide +kernel
theorem dX7_write_105 : decode cX7_write 105 = .ok (.return_, 1) := by decide +kernel
theorem dX7_erase_0 : decode cX7_erase 0 = .ok (.iconst 0, 1) := by decide +kernel
theorem dX7_erase_1 : decode cX7_erase 1 = .ok (.istore_n 2, 1) := by decide +kernel
theorem dX7_erase_2 : decode cX7_erase 2 = .ok (.iload_n 2, 1) := by decide +kernel
theorem dX7_erase_3 : decode cX7_erase 3 = .ok (.bipush 48, 2) := by decide +kernel
theorem dX7_erase_5 : decode cX7_erase 5 = .ok (.if_icmp .ge 25, 3) := by decide +kernel
theorem dX7_erase_8 : decode cX7_erase 8 = .ok (.aload_n 0, 1) := by decide +kernel
theorem dX7_erase_9 : decode cX7_erase 9 = .ok (.getfield 7, 3) := by decide +kernel
theorem dX7_erase_12 : decode cX7_erase 12 = .ok (.bipush 21, 2) := by decide +kernel
theorem dX7_erase_14 : decode cX7_erase 14 = .ok (.bipush 48, 2) := by decide +kernel
theorem dX7_erase_16 : decode cX7_erase 16 = .ok (.iload_n 1, 1) := by decide +kernel
theorem dX7_erase_17 : decode cX7_erase 17 = .ok (.imul, 1) := by decide +kernel
theorem dX7_erase_18 : decode cX7_erase 18 = .ok (.iadd, 1) := by decide +kernel
theorem dX7_erase_19 : decode cX7_erase 19 = .ok (.iload_n 2, 1) := by decide +kernel
theorem dX7_erase_20 : decode cX7_erase 20 = .ok (.iadd, 1) := by decide +kernel
theorem dX7_erase_21 : decode cX7_erase 21 = .ok (.bipush (-6), 2) := by decide +kernel
theorem dX7_erase_23 : decode cX7_erase 23 = .ok (.iastore, 1) := by decide +kernel
theorem dX7_erase_24 : decode cX7_erase 24 = .ok (.iinc 2 1, 3) := by decide +kernel
theorem dX7_erase_27 : decode cX7_erase 27 = .ok (.goto (-25), 3) := by decide +kernel
theorem dX7_erase_30 : decode cX7_erase 30 = .ok (.aload_n 0, 1) := by decide +kernel
theorem dX7_erase_31 : decode cX7_erase 31 = .ok (.getfield 7, 3) := by decide +kernel
theorem dX7_erase_34 : decode cX7_erase 34 = .ok (.bipush 9, 2) := by decide +kernel
theorem dX7_erase_36 : decode cX7_erase 36 = .ok (.iload_n 1, 1) := by decide +kernel
theorem dX7_erase_37 : decode cX7_erase 37 = .ok (.iadd, 1) := by decide +kernel
theorem dX7_erase_38 : decode cX7_erase 38 = .ok (.dup2, 1) := by decide +kernel
theorem dX7_erase_39 : decode cX7_erase 39 = .ok (.iaload, 1) := by decide +kernel
theorem dX7_erase_40 : decode cX7_erase 40 = .ok (.iconst 1, 1) := by decide +kernel
theorem dX7_erase_41 : decode cX7_erase 41 = .ok (.iadd, 1) := by decide +kernel
theorem dX7_erase_42 : decode cX7_erase 42 = .ok (.iastore, 1) := by decide +kernel
theorem dX7_erase_43 : decode cX7_erase 43 = .ok (.return_, 1) := by decide +kernel
theorem dX7_checkOfHead_0 : decode cX7_checkOfHead 0 = .ok (.iconst 3, 1) := by decide +kernel
theorem dX7_checkOfHead_1 : decode cX7_checkOfHead 1 = .ok (.iload_n 0, 1) := by decide +kernel
theorem dX7_checkOfHead_2 : decode cX7_checkOfHead 2 = .ok (.imul, 1) := by decide +kernel
theorem dX7_checkOfHead_3 : decode cX7_checkOfHead 3 = .ok (.iconst 5, 1) := by decide +kernel
theorem dX7_checkOfHead_4 : decode cX7_checkOfHead 4 = .ok (.iload_n 1, 1) := by decide +kernel
theorem dX7_checkOfHead_5 : decode cX7_checkOfHead 5 = .ok (.imul, 1) := by decide +kernel
theorem dX7_checkOfHead_6 : decode cX7_checkOfHead 6 = .ok (.iadd, 1) := by decide +kernel
theorem dX7_checkOfHead_7 : decode cX7_checkOfHead 7 = .ok (.iconst 1, 1) := by decide +kernel
theorem dX7_checkOfHead_8 : decode cX7_checkOfHead 8 = .ok (.iadd, 1) := by decide +kernel
theorem dX7_checkOfHead_9 : decode cX7_checkOfHead 9 = .ok (.sipush 251, 3) := by decide +kernel
theorem dX7_checkOfHead_12 : decode cX7_checkOfHead 12 = .ok (.irem, 1) := by decide +kernel
theorem dX7_checkOfHead_13 : decode cX7_checkOfHead 13 = .ok (.ireturn, 1) := by decide +kernel
theorem dX7_checkOfRecord_0 : decode cX7_checkOfRecord 0 = .ok (.bipush 7, 2) := by decide +kernel
theorem dX7_checkOfRecord_2 : decode cX7_checkOfRecord 2 = .ok (.iload_n 0, 1) := by decide +kernel
theorem dX7_checkOfRecord_3 : decode cX7_checkOfRecord 3 = .ok (.imul, 1) := by decide +kernel
theorem dX7_checkOfRecord_4 : decode cX7_checkOfRecord 4 = .ok (.bipush 11, 2) := by decide +kernel
theorem dX7_checkOfRecord_6 : decode cX7_checkOfRecord 6 = .ok (.iload_n 1, 1) := by decide +kernel
theorem dX7_checkOfRecord_7 : decode cX7_checkOfRecord 7 = .ok (.imul, 1) := by decide +kernel
theorem dX7_checkOfRecord_8 : decode cX7_checkOfRecord 8 = .ok (.iadd, 1) := by decide +kernel
theorem dX7_checkOfRecord_9 : decode cX7_checkOfRecord 9 = .ok (.bipush 13, 2) := by decide +kernel
theorem dX7_checkOfRecord_11 : decode cX7_checkOfRecord 11 = .ok (.iload_n 2, 1) := by decide +kernel
theorem dX7_checkOfRecord_12 : decode cX7_checkOfRecord 12 = .ok (.imul, 1) := by decide +kernel
theorem dX7_checkOfRecord_13 : decode cX7_checkOfRecord 13 = .ok (.iadd, 1) := by decide +kernel
theorem dX7_checkOfRecord_14 : decode cX7_checkOfRecord 14 = .ok (.iconst 5, 1) := by decide +kernel
theorem dX7_checkOfRecord_15 : decode cX7_checkOfRecord 15 = .ok (.iadd, 1) := by decide +kernel
theorem dX7_checkOfRecord_16 : decode cX7_checkOfRecord 16 = .ok (.sipush 251, 3) := by decide +kernel
theorem dX7_checkOfRecord_19 : decode cX7_checkOfRecord 19 = .ok (.irem, 1) := by decide +kernel
theorem dX7_checkOfRecord_20 : decode cX7_checkOfRecord 20 = .ok (.ireturn, 1) := by decide +kernel
theorem dX7_writeRecord_0 : decode cX7_writeRecord 0 = .ok (.aload_n 0, 1) := by decide +kernel
theorem dX7_writeRecord_1 : decode cX7_writeRecord 1 = .ok (.iload_n 1, 1) := by decide +kernel
theorem dX7_writeRecord_2 : decode cX7_writeRecord 2 = .ok (.iload_n 2, 1) := by decide +kernel
theorem dX7_writeRecord_3 : decode cX7_writeRecord 3 = .ok (.iconst 1, 1) := by decide +kernel
theorem dX7_writeRecord_4 : decode cX7_writeRecord 4 = .ok (.iload_n 3, 1) := by decide +kernel
theorem dX7_writeRecord_5 : decode cX7_writeRecord 5 = .ok (.iadd, 1) := by decide +kernel
theorem dX7_writeRecord_6 : decode cX7_writeRecord 6 = .ok (.invokevirtual 104, 3) := by decide +kernel
theorem dX7_writeRecord_9 : decode cX7_writeRecord 9 = .ok (.aload_n 0, 1) := by decide +kernel
theorem dX7_writeRecord_10 : decode cX7_writeRecord 10 = .ok (.iload_n 1, 1) := by decide +kernel
theorem dX7_writeRecord_11 : decode cX7_writeRecord 11 = .ok (.iload_n 2, 1) := by decide +kernel
theorem dX7_writeRecord_12 : decode cX7_writeRecord 12 = .ok (.iconst 1, 1) := by decide +kernel
theorem dX7_writeRecord_13 : decode cX7_writeRecord 13 = .ok (.iadd, 1) := by decide +kernel
theorem dX7_writeRecord_14 : decode cX7_writeRecord 14 = .ok (.iload 4, 2) := by decide +kernel
theorem dX7_writeRecord_16 : decode cX7_writeRecord 16 = .ok (.invokevirtual 104, 3) := by decide +kernel
theorem dX7_writeRecord_19 : decode cX7_writeRecord 19 = .ok (.aload_n 0, 1) := by decide +kernel
theorem dX7_writeRecord_20 : decode cX7_writeRecord 20 = .ok (.iload_n 1, 1) := by decide +kernel
theorem dX7_writeRecord_21 : decode cX7_writeRecord 21 = .ok (.iload_n 2, 1) := by decide +kernel
theorem dX7_writeRecord_22 : decode cX7_writeRecord 22 = .ok (.iconst 2, 1) := by decide +kernel
theorem dX7_writeRecord_23 : decode cX7_writeRecord 23 = .ok (.iadd, 1) := by decide +kernel
theorem dX7_writeRecord_24 : decode cX7_writeRecord 24 = .ok (.iconst 1, 1) := by decide +kernel
theorem dX7_writeRecord_25 : decode cX7_writeRecord 25 = .ok (.iload_n 3, 1) := by decide +kernel
theorem dX7_writeRecord_26 : decode cX7_writeRecord 26 = .ok (.iadd, 1) := by decide +kernel
theorem dX7_writeRecord_27 : decode cX7_writeRecord 27 = .ok (.iload 4, 2) := by decide +kernel
theorem dX7_writeRecord_29 : decode cX7_writeRecord 29 = .ok (.iload 5, 2) := by decide +kernel
theorem dX7_writeRecord_31 : decode cX7_writeRecord 31 = .ok (.invokestatic 108, 3) := by decide +kernel
theorem dX7_writeRecord_34 : decode cX7_writeRecord 34 = .ok (.invokevirtual 104, 3) := by decide +kernel
theorem dX7_writeRecord_37 : decode cX7_writeRecord 37 = .ok (.return_, 1) := by decide +kernel
theorem dX7_writeHead_0 : decode cX7_writeHead 0 = .ok (.aload_n 0, 1) := by decide +kernel
theorem dX7_writeHead_1 : decode cX7_writeHead 1 = .ok (.iload_n 1, 1) := by decide +kernel
theorem dX7_writeHead_2 : decode cX7_writeHead 2 = .ok (.iconst 0, 1) := by decide +kernel
theorem dX7_writeHead_3 : decode cX7_writeHead 3 = .ok (.sipush 200, 3) := by decide +kernel
theorem dX7_writeHead_6 : decode cX7_writeHead 6 = .ok (.iload_n 2, 1) := by decide +kernel
theorem dX7_writeHead_7 : decode cX7_writeHead 7 = .ok (.iadd, 1) := by decide +kernel
theorem dX7_writeHead_8 : decode cX7_writeHead 8 = .ok (.invokevirtual 104, 3) := by decide +kernel
theorem dX7_writeHead_11 : decode cX7_writeHead 11 = .ok (.aload_n 0, 1) := by decide +kernel
theorem dX7_writeHead_12 : decode cX7_writeHead 12 = .ok (.iload_n 1, 1) := by decide +kernel
theorem dX7_writeHead_13 : decode cX7_writeHead 13 = .ok (.iconst 1, 1) := by decide +kernel
theorem dX7_writeHead_14 : decode cX7_writeHead 14 = .ok (.iload_n 3, 1) := by decide +kernel
theorem dX7_writeHead_15 : decode cX7_writeHead 15 = .ok (.invokevirtual 104, 3) := by decide +kernel
theorem dX7_writeHead_18 : decode cX7_writeHead 18 = .ok (.aload_n 0, 1) := by decide +kernel
theorem dX7_writeHead_19 : decode cX7_writeHead 19 = .ok (.iload_n 1, 1) := by decide +kernel
theorem dX7_writeHead_20 : decode cX7_writeHead 20 = .ok (.iconst 2, 1) := by decide +kernel
theorem dX7_writeHead_21 : decode cX7_writeHead 21 = .ok (.sipush 200, 3) := by decide +kernel
theorem dX7_writeHead_24 : decode cX7_writeHead 24 = .ok (.iload_n 2, 1) := by decide +kernel
theorem dX7_writeHead_25 : decode cX7_writeHead 25 = .ok (.iadd, 1) := by decide +kernel
theorem dX7_writeHead_26 : decode cX7_writeHead 26 = .ok (.iload_n 3, 1) := by decide +kernel
theorem dX7_writeHead_27 : decode cX7_writeHead 27 = .ok (.invokestatic 111, 3) := by decide +kernel
theorem dX7_writeHead_30 : decode cX7_writeHead 30 = .ok (.invokevirtual 104, 3) := by decide +kernel
theorem dX7_writeHead_33 : decode cX7_writeHead 33 = .ok (.return_, 1) := by decide +kernel
theorem dX7_fail_0 : decode cX7_fail 0 = .ok (.iload_n 1, 1) := by decide +kernel
theorem dX7_fail_1 : decode cX7_fail 1 = .ok (.bipush (-6), 2) := by decide +kernel
theorem dX7_fail_3 : decode cX7_fail 3 = .ok (.if_icmp .eq 17, 3) := by decide +kernel
theorem dX7_fail_6 : decode cX7_fail 6 = .ok (.iload_n 1, 1) := by decide +kernel
theorem dX7_fail_7 : decode cX7_fail 7 = .ok (.iconst 0, 1) := by decide +kernel
theorem dX7_fail_8 : decode cX7_fail 8 = .ok (.sipush 200, 3) := by decide +kernel
theorem dX7_fail_11 : decode cX7_fail 11 = .ok (.invokestatic 63, 3) := by decide +kernel
theorem dX7_fail_14 : decode cX7_fail 14 = .ok (.ifCond .ne 6, 3) := by decide +kernel
theorem dX7_fail_17 : decode cX7_fail 17 = .ok (.bipush (-2), 2) := by decide +kernel
theorem dX7_fail_19 : decode cX7_fail 19 = .ok (.ireturn, 1) := by decide +kernel
theorem dX7_fail_20 : decode cX7_fail 20 = .ok (.aload_n 0, 1) := by decide +kernel
theorem dX7_fail_21 : decode cX7_fail 21 = .ok (.getfield 7, 3) := by decide +kernel
theorem dX7_fail_24 : decode cX7_fail 24 = .ok (.iconst 0, 1) := by decide +kernel
theorem dX7_fail_25 : decode cX7_fail 25 = .ok (.iaload, 1) := by decide +kernel
theorem dX7_fail_26 : decode cX7_fail 26 = .ok (.ifCond .ne 6, 3) := by decide +kernel
theorem dX7_fail_29 : decode cX7_fail 29 = .ok (.bipush (-5), 2) := by decide +kernel
theorem dX7_fail_31 : decode cX7_fail 31 = .ok (.ireturn, 1) := by decide +kernel
theorem dX7_fail_32 : decode cX7_fail 32 = .ok (.aload_n 0, 1) := by decide +kernel
theorem dX7_fail_33 : decode cX7_fail 33 = .ok (.getfield 7, 3) := by decide +kernel
theorem dX7_fail_36 : decode cX7_fail 36 = .ok (.iconst 1, 1) := by decide +kernel
theorem dX7_fail_37 : decode cX7_fail 37 = .ok (.iaload, 1) := by decide +kernel
theorem dX7_fail_38 : decode cX7_fail 38 = .ok (.bipush (-6), 2) := by decide +kernel
theorem dX7_fail_40 : decode cX7_fail 40 = .ok (.if_icmp .ne 7, 3) := by decide +kernel
theorem dX7_fail_43 : decode cX7_fail 43 = .ok (.iconst 0, 1) := by decide +kernel
theorem dX7_fail_44 : decode cX7_fail 44 = .ok (.goto 4, 3) := by decide +kernel
theorem dX7_fail_47 : decode cX7_fail 47 = .ok (.iconst 1, 1) := by decide +kernel
theorem dX7_fail_48 : decode cX7_fail 48 = .ok (.istore_n 2, 1) := by decide +kernel
theorem dX7_fail_49 : decode cX7_fail 49 = .ok (.aload_n 0, 1) := by decide +kernel
theorem dX7_fail_50 : decode cX7_fail 50 = .ok (.getfield 7, 3) := by decide +kernel
theorem dX7_fail_53 : decode cX7_fail 53 = .ok (.iconst 1, 1) := by decide +kernel
theorem dX7_fail_54 : decode cX7_fail 54 = .ok (.iload_n 1, 1) := by decide +kernel
theorem dX7_fail_55 : decode cX7_fail 55 = .ok (.iastore, 1) := by decide +kernel
theorem dX7_fail_56 : decode cX7_fail 56 = .ok (.iload_n 2, 1) := by decide +kernel
theorem dX7_fail_57 : decode cX7_fail 57 = .ok (.ireturn, 1) := by decide +kernel
theorem dX7_isHead_0 : decode cX7_isHead 0 = .ok (.aload_n 0, 1) := by decide +kernel
theorem dX7_isHead_1 : decode cX7_isHead 1 = .ok (.iload_n 1, 1) := by decide +kernel
theorem dX7_isHead_2 : decode cX7_isHead 2 = .ok (.iconst 0, 1) := by decide +kernel
theorem dX7_isHead_3 : decode cX7_isHead 3 = .ok (.invokevirtual 114, 3) := by decide +kernel
theorem dX7_isHead_6 : decode cX7_isHead 6 = .ok (.istore_n 2, 1) := by decide +kernel
theorem dX7_isHead_7 : decode cX7_isHead 7 = .ok (.aload_n 0, 1) := by decide +kernel
theorem dX7_isHead_8 : decode cX7_isHead 8 = .ok (.iload_n 1, 1) := by decide +kernel
theorem dX7_isHead_9 : decode cX7_isHead 9 = .ok (.iconst 1, 1) := by decide +kernel
theorem dX7_isHead_10 : decode cX7_isHead 10 = .ok (.invokevirtual 114, 3) := by decide +kernel
theorem dX7_isHead_13 : decode cX7_isHead 13 = .ok (.istore_n 3, 1) := by decide +kernel
theorem dX7_isHead_14 : decode cX7_isHead 14 = .ok (.iload_n 2, 1) := by decide +kernel
theorem dX7_isHead_15 : decode cX7_isHead 15 = .ok (.sipush 200, 3) := by decide +kernel
theorem dX7_isHead_18 : decode cX7_isHead 18 = .ok (.sipush 205, 3) := by decide +kernel
theorem dX7_isHead_21 : decode cX7_isHead 21 = .ok (.invokestatic 63, 3) := by decide +kernel
theorem dX7_isHead_24 : decode cX7_isHead 24 = .ok (.ifCond .eq 44, 3) := by decide +kernel
theorem dX7_isHead_27 : decode cX7_isHead 27 = .ok (.aload_n 0, 1) := by decide +kernel
theorem dX7_isHead_28 : decode cX7_isHead 28 = .ok (.iload_n 2, 1) := by decide +kernel
theorem dX7_isHead_29 : decode cX7_isHead 29 = .ok (.sipush 200, 3) := by decide +kernel
theorem dX7_isHead_32 : decode cX7_isHead 32 = .ok (.isub, 1) := by decide +kernel
theorem dX7_isHead_33 : decode cX7_isHead 33 = .ok (.invokevirtual 97, 3) := by decide +kernel
theorem dX7_isHead_36 : decode cX7_isHead 36 = .ok (.ifCond .eq 32, 3) := by decide +kernel
theorem dX7_isHead_39 : decode cX7_isHead 39 = .ok (.iload_n 3, 1) := by decide +kernel
theorem dX7_isHead_40 : decode cX7_isHead 40 = .ok (.iconst 0, 1) := by decide +kernel
theorem dX7_isHead_41 : decode cX7_isHead 41 = .ok (.sipush 199, 3) := by decide +kernel
theorem dX7_isHead_44 : decode cX7_isHead 44 = .ok (.invokestatic 63, 3) := by decide +kernel
theorem dX7_isHead_47 : decode cX7_isHead 47 = .ok (.ifCond .eq 21, 3) := by decide +kernel
theorem dX7_isHead_50 : decode cX7_isHead 50 = .ok (.aload_n 0, 1) := by decide +kernel
theorem dX7_isHead_51 : decode cX7_isHead 51 = .ok (.iload_n 1, 1) := by decide +kernel
theorem dX7_isHead_52 : decode cX7_isHead 52 = .ok (.iconst 2, 1) := by decide +kernel
theorem dX7_isHead_53 : decode cX7_isHead 53 = .ok (.invokevirtual 114, 3) := by decide +kernel
theorem dX7_isHead_56 : decode cX7_isHead 56 = .ok (.iload_n 2, 1) := by decide +kernel
theorem dX7_isHead_57 : decode cX7_isHead 57 = .ok (.iload_n 3, 1) := by decide +kernel
theorem dX7_isHead_58 : decode cX7_isHead 58 = .ok (.invokestatic 111, 3) := by decide +kernel
theorem dX7_isHead_61 : decode cX7_isHead 61 = .ok (.if_icmp .ne 7, 3) := by decide +kernel
theorem dX7_isHead_64 : decode cX7_isHead 64 = .ok (.iconst 1, 1) := by decide +kernel
theorem dX7_isHead_65 : decode cX7_isHead 65 = .ok (.goto 4, 3) := by decide +kernel
theorem dX7_isHead_68 : decode cX7_isHead 68 = .ok (.iconst 0, 1) := by decide +kernel
theorem dX7_isHead_69 : decode cX7_isHead 69 = .ok (.ireturn, 1) := by decide +kernel
theorem dX7_isRecord_0 : decode cX7_isRecord 0 = .ok (.aload_n 0, 1) := by decide +kernel
theorem dX7_isRecord_1 : decode cX7_isRecord 1 = .ok (.iload_n 1, 1) := by decide +kernel
theorem dX7_isRecord_2 : decode cX7_isRecord 2 = .ok (.iload_n 2, 1) := by decide +kernel
theorem dX7_isRecord_3 : decode cX7_isRecord 3 = .ok (.invokevirtual 114, 3) := by decide +kernel
theorem dX7_isRecord_6 : decode cX7_isRecord 6 = .ok (.istore 4, 2) := by decide +kernel
theorem dX7_isRecord_8 : decode cX7_isRecord 8 = .ok (.aload_n 0, 1) := by decide +kernel
theorem dX7_isRecord_9 : decode cX7_isRecord 9 = .ok (.iload_n 1, 1) := by decide +kernel
theorem dX7_isRecord_10 : decode cX7_isRecord 10 = .ok (.iload_n 2, 1) := by decide +kernel
theorem dX7_isRecord_11 : decode cX7_isRecord 11 = .ok (.iconst 1, 1) := by decide +kernel
theorem dX7_isRecord_12 : decode cX7_isRecord 12 = .ok (.iadd, 1) := by decide +kernel
theorem dX7_isRecord_13 : decode cX7_isRecord 13 = .ok (.invokevirtual 114, 3) := by decide +kernel
theorem dX7_isRecord_16 : decode cX7_isRecord 16 = .ok (.istore 5, 2) := by decide +kernel
theorem dX7_isRecord_18 : decode cX7_isRecord 18 = .ok (.iload 4, 2) := by decide +kernel
theorem dX7_isRecord_20 : decode cX7_isRecord 20 = .ok (.iconst 1, 1) := by decide +kernel
theorem dX7_isRecord_21 : decode cX7_isRecord 21 = .ok (.bipush 10, 2) := by decide +kernel
theorem dX7_isRecord_23 : decode cX7_isRecord 23 = .ok (.invokestatic 63, 3) := by decide +kernel
theorem dX7_isRecord_26 : decode cX7_isRecord 26 = .ok (.ifCond .eq 19, 3) := by decide +kernel
theorem dX7_isRecord_29 : decode cX7_isRecord 29 = .ok (.aload_n 0, 1) := by decide +kernel
theorem dX7_isRecord_30 : decode cX7_isRecord 30 = .ok (.iload_n 3, 1) := by decide +kernel
theorem dX7_isRecord_31 : decode cX7_isRecord 31 = .ok (.iload 4, 2) := by decide +kernel
theorem dX7_isRecord_33 : decode cX7_isRecord 33 = .ok (.iconst 1, 1) := by decide +kernel
theorem dX7_isRecord_34 : decode cX7_isRecord 34 = .ok (.isub, 1) := by decide +kernel
theorem dX7_isRecord_35 : decode cX7_isRecord 35 = .ok (.invokevirtual 71, 3) := by decide +kernel
theorem dX7_isRecord_38 : decode cX7_isRecord 38 = .ok (.ifCond .eq 7, 3) := by decide +kernel
theorem dX7_isRecord_41 : decode cX7_isRecord 41 = .ok (.iconst 1, 1) := by decide +kernel
theorem dX7_isRecord_42 : decode cX7_isRecord 42 = .ok (.goto 4, 3) := by decide +kernel
theorem dX7_isRecord_45 : decode cX7_isRecord 45 = .ok (.iconst 0, 1) := by decide +kernel
theorem dX7_isRecord_46 : decode cX7_isRecord 46 = .ok (.istore 6, 2) := by decide +kernel
theorem dX7_isRecord_48 : decode cX7_isRecord 48 = .ok (.iload 6, 2) := by decide +kernel
theorem dX7_isRecord_50 : decode cX7_isRecord 50 = .ok (.ifCond .eq 49, 3) := by decide +kernel
theorem dX7_isRecord_53 : decode cX7_isRecord 53 = .ok (.iload 5, 2) := by decide +kernel
theorem dX7_isRecord_55 : decode cX7_isRecord 55 = .ok (.iconst 0, 1) := by decide +kernel
theorem dX7_isRecord_56 : decode cX7_isRecord 56 = .ok (.aload_n 0, 1) := by decide +kernel
theorem dX7_isRecord_57 : decode cX7_isRecord 57 = .ok (.getfield 29, 3) := by decide +kernel
theorem dX7_isRecord_60 : decode cX7_isRecord 60 = .ok (.bipush 10, 2) := by decide +kernel
theorem dX7_isRecord_62 : decode cX7_isRecord 62 = .ok (.iload_n 3, 1) := by decide +kernel
theorem dX7_isRecord_63 : decode cX7_isRecord 63 = .ok (.imul, 1) := by decide +kernel
theorem dX7_isRecord_64 : decode cX7_isRecord 64 = .ok (.iload 4, 2) := by decide +kernel
theorem dX7_isRecord_66 : decode cX7_isRecord 66 = .ok (.iadd, 1) := by decide +kernel
theorem dX7_isRecord_67 : decode cX7_isRecord 67 = .ok (.iconst 1, 1) := by decide +kernel
theorem dX7_isRecord_68 : decode cX7_isRecord 68 = .ok (.isub, 1) := by decide +kernel
theorem dX7_isRecord_69 : decode cX7_isRecord 69 = .ok (.iaload, 1) := by decide +kernel
theorem dX7_isRecord_70 : decode cX7_isRecord 70 = .ok (.invokestatic 63, 3) := by decide +kernel
theorem dX7_isRecord_73 : decode cX7_isRecord 73 = .ok (.ifCond .eq 26, 3) := by decide +kernel
theorem dX7_isRecord_76 : decode cX7_isRecord 76 = .ok (.aload_n 0, 1) := by decide +kernel
theorem dX7_isRecord_77 : decode cX7_isRecord 77 = .ok (.iload_n 1, 1) := by decide +kernel
theorem dX7_isRecord_78 : decode cX7_isRecord 78 = .ok (.iload_n 2, 1) := by decide +kernel
theorem dX7_isRecord_79 : decode cX7_isRecord 79 = .ok (.iconst 2, 1) := by decide +kernel
theorem dX7_isRecord_80 : decode cX7_isRecord 80 = .ok (.iadd, 1) := by decide +kernel
theorem dX7_isRecord_81 : decode cX7_isRecord 81 = .ok (.invokevirtual 114, 3) := by decide +kernel
theorem dX7_isRecord_84 : decode cX7_isRecord 84 = .ok (.iload 4, 2) := by decide +kernel
theorem dX7_isRecord_86 : decode cX7_isRecord 86 = .ok (.iload 5, 2) := by decide +kernel
theorem dX7_isRecord_88 : decode cX7_isRecord 88 = .ok (.iload_n 3, 1) := by decide +kernel
theorem dX7_isRecord_89 : decode cX7_isRecord 89 = .ok (.invokestatic 108, 3) := by decide +kernel
theorem dX7_isRecord_92 : decode cX7_isRecord 92 = .ok (.if_icmp .ne 7, 3) := by decide +kernel
theorem dX7_isRecord_95 : decode cX7_isRecord 95 = .ok (.iconst 1, 1) := by decide +kernel
theorem dX7_isRecord_96 : decode cX7_isRecord 96 = .ok (.goto 4, 3) := by decide +kernel
theorem dX7_isRecord_99 : decode cX7_isRecord 99 = .ok (.iconst 0, 1) := by decide +kernel
theorem dX7_isRecord_100 : decode cX7_isRecord 100 = .ok (.ireturn, 1) := by decide +kernel
theorem dX7_goThrough_0 : decode cX7_goThrough 0 = .ok (.aload_n 0, 1) := by decide +kernel
theorem dX7_goThrough_1 : decode cX7_goThrough 1 = .ok (.iconst 0, 1) := by decide +kernel
theorem dX7_goThrough_2 : decode cX7_goThrough 2 = .ok (.putfield 117, 3) := by decide +kernel
theorem dX7_goThrough_5 : decode cX7_goThrough 5 = .ok (.aload_n 0, 1) := by decide +kernel
theorem dX7_goThrough_6 : decode cX7_goThrough 6 = .ok (.iconst 0, 1) := by decide +kernel
theorem dX7_goThrough_7 : decode cX7_goThrough 7 = .ok (.putfield 120, 3) := by decide +kernel
theorem dX7_goThrough_10 : decode cX7_goThrough 10 = .ok (.aload_n 0, 1) := by decide +kernel
theorem dX7_goThrough_11 : decode cX7_goThrough 11 = .ok (.iconst 3, 1) := by decide +kernel
theorem dX7_goThrough_12 : decode cX7_goThrough 12 = .ok (.putfield 123, 3) := by decide +kernel
theorem dX7_goThrough_15 : decode cX7_goThrough 15 = .ok (.aload_n 0, 1) := by decide +kernel
theorem dX7_goThrough_16 : decode cX7_goThrough 16 = .ok (.getfield 123, 3) := by decide +kernel
theorem dX7_goThrough_19 : decode cX7_goThrough 19 = .ok (.bipush 48, 2) := by decide +kernel
theorem dX7_goThrough_21 : decode cX7_goThrough 21 = .ok (.if_icmp .ge 123, 3) := by decide +kernel
theorem dX7_goThrough_24 : decode cX7_goThrough 24 = .ok (.aload_n 0, 1) := by decide +kernel
theorem dX7_goThrough_25 : decode cX7_goThrough 25 = .ok (.iload_n 1, 1) := by decide +kernel
theorem dX7_goThrough_26 : decode cX7_goThrough 26 = .ok (.aload_n 0, 1) := by decide +kernel
theorem dX7_goThrough_27 : decode cX7_goThrough 27 = .ok (.getfield 123, 3) := by decide +kernel
theorem dX7_goThrough_30 : decode cX7_goThrough 30 = .ok (.invokevirtual 114, 3) := by decide +kernel
theorem dX7_goThrough_33 : decode cX7_goThrough 33 = .ok (.bipush (-6), 2) := by decide +kernel
theorem dX7_goThrough_35 : decode cX7_goThrough 35 = .ok (.if_icmp .eq 109, 3) := by decide +kernel
theorem dX7_goThrough_38 : decode cX7_goThrough 38 = .ok (.aload_n 0, 1) := by decide +kernel
theorem dX7_goThrough_39 : decode cX7_goThrough 39 = .ok (.iload_n 1, 1) := by decide +kernel
theorem dX7_goThrough_40 : decode cX7_goThrough 40 = .ok (.aload_n 0, 1) := by decide +kernel
theorem dX7_goThrough_41 : decode cX7_goThrough 41 = .ok (.getfield 123, 3) := by decide +kernel
theorem dX7_goThrough_44 : decode cX7_goThrough 44 = .ok (.iload_n 2, 1) := by decide +kernel
theorem dX7_goThrough_45 : decode cX7_goThrough 45 = .ok (.invokevirtual 126, 3) := by decide +kernel
theorem dX7_goThrough_48 : decode cX7_goThrough 48 = .ok (.ifCond .eq 73, 3) := by decide +kernel
theorem dX7_goThrough_51 : decode cX7_goThrough 51 = .ok (.aload_n 0, 1) := by decide +kernel
theorem dX7_goThrough_52 : decode cX7_goThrough 52 = .ok (.dup, 1) := by decide +kernel
theorem dX7_goThrough_53 : decode cX7_goThrough 53 = .ok (.getfield 117, 3) := by decide +kernel
theorem dX7_goThrough_56 : decode cX7_goThrough 56 = .ok (.iconst 1, 1) := by decide +kernel
theorem dX7_goThrough_57 : decode cX7_goThrough 57 = .ok (.iadd, 1) := by decide +kernel
theorem dX7_goThrough_58 : decode cX7_goThrough 58 = .ok (.putfield 117, 3) := by decide +kernel
theorem dX7_goThrough_61 : decode cX7_goThrough 61 = .ok (.iload_n 3, 1) := by decide +kernel
theorem dX7_goThrough_62 : decode cX7_goThrough 62 = .ok (.ifCond .eq 69, 3) := by decide +kernel
theorem dX7_goThrough_65 : decode cX7_goThrough 65 = .ok (.aload_n 0, 1) := by decide +kernel
theorem dX7_goThrough_66 : decode cX7_goThrough 66 = .ok (.getfield 7, 3) := by decide +kernel
theorem dX7_goThrough_69 : decode cX7_goThrough 69 = .ok (.bipush 11, 2) := by decide +kernel
theorem dX7_goThrough_71 : decode cX7_goThrough 71 = .ok (.aload_n 0, 1) := by decide +kernel
theorem dX7_goThrough_72 : decode cX7_goThrough 72 = .ok (.iload_n 1, 1) := by decide +kernel
theorem dX7_goThrough_73 : decode cX7_goThrough 73 = .ok (.aload_n 0, 1) := by decide +kernel
theorem dX7_goThrough_74 : decode cX7_goThrough 74 = .ok (.getfield 123, 3) := by decide +kernel
theorem dX7_goThrough_77 : decode cX7_goThrough 77 = .ok (.invokevirtual 114, 3) := by decide +kernel
theorem dX7_goThrough_80 : decode cX7_goThrough 80 = .ok (.iadd, 1) := by decide +kernel
theorem dX7_goThrough_81 : decode cX7_goThrough 81 = .ok (.iconst 1, 1) := by decide +kernel
theorem dX7_goThrough_82 : decode cX7_goThrough 82 = .ok (.isub, 1) := by decide +kernel
theorem dX7_goThrough_83 : decode cX7_goThrough 83 = .ok (.aload_n 0, 1) := by decide +kernel
theorem dX7_goThrough_84 : decode cX7_goThrough 84 = .ok (.iload_n 1, 1) := by decide +kernel
theorem dX7_goThrough_85 : decode cX7_goThrough 85 = .ok (.aload_n 0, 1) := by decide +kernel
theorem dX7_goThrough_86 : decode cX7_goThrough 86 = .ok (.getfield 123, 3) := by decide +kernel
theorem dX7_goThrough_89 : decode cX7_goThrough 89 = .ok (.iconst 1, 1) := by decide +kernel
theorem dX7_goThrough_90 : decode cX7_goThrough 90 = .ok (.iadd, 1) := by decide +kernel
theorem dX7_goThrough_91 : decode cX7_goThrough 91 = .ok (.invokevirtual 114, 3) := by decide +kernel
theorem dX7_goThrough_94 : decode cX7_goThrough 94 = .ok (.iastore, 1) := by decide +kernel
theorem dX7_goThrough_95 : decode cX7_goThrough 95 = .ok (.aload_n 0, 1) := by decide +kernel
theorem dX7_goThrough_96 : decode cX7_goThrough 96 = .ok (.getfield 7, 3) := by decide +kernel
theorem dX7_goThrough_99 : decode cX7_goThrough 99 = .ok (.bipush 117, 2) := by decide +kernel
theorem dX7_goThrough_101 : decode cX7_goThrough 101 = .ok (.aload_n 0, 1) := by decide +kernel
theorem dX7_goThrough_102 : decode cX7_goThrough 102 = .ok (.iload_n 1, 1) := by decide +kernel
theorem dX7_goThrough_103 : decode cX7_goThrough 103 = .ok (.aload_n 0, 1) := by decide +kernel
theorem dX7_goThrough_104 : decode cX7_goThrough 104 = .ok (.getfield 123, 3) := by decide +kernel
theorem dX7_goThrough_107 : decode cX7_goThrough 107 = .ok (.invokevirtual 114, 3) := by decide +kernel
theorem dX7_goThrough_110 : decode cX7_goThrough 110 = .ok (.iadd, 1) := by decide +kernel
theorem dX7_goThrough_111 : decode cX7_goThrough 111 = .ok (.iconst 1, 1) := by decide +kernel
theorem dX7_goThrough_112 : decode cX7_goThrough 112 = .ok (.isub, 1) := by decide +kernel
theorem dX7_goThrough_113 : decode cX7_goThrough 113 = .ok (.aload_n 0, 1) := by decide +kernel
theorem dX7_goThrough_114 : decode cX7_goThrough 114 = .ok (.getfield 123, 3) := by decide +kernel
theorem dX7_goThrough_117 : decode cX7_goThrough 117 = .ok (.iastore, 1) := by decide +kernel
theorem dX7_goThrough_118 : decode cX7_goThrough 118 = .ok (.goto 13, 3) := by decide +kernel
theorem dX7_goThrough_121 : decode cX7_goThrough 121 = .ok (.aload_n 0, 1) := by decide +kernel
theorem dX7_goThrough_122 : decode cX7_goThrough 122 = .ok (.dup, 1) := by decide +kernel
theorem dX7_goThrough_123 : decode cX7_goThrough 123 = .ok (.getfield 120, 3) := by decide +kernel
