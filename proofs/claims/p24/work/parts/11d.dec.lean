theorem dL_stands_141 : decode cL_stands 141 = .ok (.if_icmp .eq 5, 3) := by decide +kernel
theorem dL_stands_144 : decode cL_stands 144 = .ok (.iconst 0, 1) := by decide +kernel
theorem dL_stands_145 : decode cL_stands 145 = .ok (.ireturn, 1) := by decide +kernel
theorem dL_stands_146 : decode cL_stands 146 = .ok (.iinc 4 1, 3) := by decide +kernel
theorem dL_stands_149 : decode cL_stands 149 = .ok (.goto (-132), 3) := by decide +kernel
theorem dL_stands_152 : decode cL_stands 152 = .ok (.aload_n 0, 1) := by decide +kernel
theorem dL_stands_153 : decode cL_stands 153 = .ok (.iload_n 1, 1) := by decide +kernel
theorem dL_stands_154 : decode cL_stands 154 = .ok (.iconst 0, 1) := by decide +kernel
theorem dL_stands_155 : decode cL_stands 155 = .ok (.invokevirtual 83, 3) := by decide +kernel
theorem dL_stands_158 : decode cL_stands 158 = .ok (.sipush 200, 3) := by decide +kernel
theorem dL_stands_161 : decode cL_stands 161 = .ok (.iload_n 2, 1) := by decide +kernel
theorem dL_stands_162 : decode cL_stands 162 = .ok (.iadd, 1) := by decide +kernel
theorem dL_stands_163 : decode cL_stands 163 = .ok (.if_icmp .ne 27, 3) := by decide +kernel
theorem dL_stands_166 : decode cL_stands 166 = .ok (.aload_n 0, 1) := by decide +kernel
theorem dL_stands_167 : decode cL_stands 167 = .ok (.iload_n 1, 1) := by decide +kernel
theorem dL_stands_168 : decode cL_stands 168 = .ok (.iconst 1, 1) := by decide +kernel
theorem dL_stands_169 : decode cL_stands 169 = .ok (.invokevirtual 83, 3) := by decide +kernel
theorem dL_stands_172 : decode cL_stands 172 = .ok (.aload_n 0, 1) := by decide +kernel
theorem dL_stands_173 : decode cL_stands 173 = .ok (.iconst 3, 1) := by decide +kernel
theorem dL_stands_174 : decode cL_stands 174 = .ok (.invokevirtual 48, 3) := by decide +kernel
theorem dL_stands_177 : decode cL_stands 177 = .ok (.if_icmp .ne 13, 3) := by decide +kernel
theorem dL_stands_180 : decode cL_stands 180 = .ok (.aload_n 0, 1) := by decide +kernel
theorem dL_stands_181 : decode cL_stands 181 = .ok (.iload_n 1, 1) := by decide +kernel
theorem dL_stands_182 : decode cL_stands 182 = .ok (.iconst 2, 1) := by decide +kernel
theorem dL_stands_183 : decode cL_stands 183 = .ok (.invokevirtual 88, 3) := by decide +kernel
theorem dL_stands_186 : decode cL_stands 186 = .ok (.iconst 1, 1) := by decide +kernel
theorem dL_stands_187 : decode cL_stands 187 = .ok (.if_icmp .eq 5, 3) := by decide +kernel
theorem dL_stands_190 : decode cL_stands 190 = .ok (.iconst 0, 1) := by decide +kernel
theorem dL_stands_191 : decode cL_stands 191 = .ok (.ireturn, 1) := by decide +kernel
theorem dL_stands_192 : decode cL_stands 192 = .ok (.aload_n 0, 1) := by decide +kernel
theorem dL_stands_193 : decode cL_stands 193 = .ok (.bipush 7, 2) := by decide +kernel
theorem dL_stands_195 : decode cL_stands 195 = .ok (.invokevirtual 48, 3) := by decide +kernel
theorem dL_stands_198 : decode cL_stands 198 = .ok (.iload_n 3, 1) := by decide +kernel
theorem dL_stands_199 : decode cL_stands 199 = .ok (.if_icmp .ne 85, 3) := by decide +kernel
theorem dL_stands_202 : decode cL_stands 202 = .ok (.aload_n 0, 1) := by decide +kernel
theorem dL_stands_203 : decode cL_stands 203 = .ok (.bipush 6, 2) := by decide +kernel
theorem dL_stands_205 : decode cL_stands 205 = .ok (.invokevirtual 48, 3) := by decide +kernel
theorem dL_stands_208 : decode cL_stands 208 = .ok (.iconst 3, 1) := by decide +kernel
theorem dL_stands_209 : decode cL_stands 209 = .ok (.if_icmp .ne 75, 3) := by decide +kernel
theorem dL_stands_212 : decode cL_stands 212 = .ok (.aload_n 0, 1) := by decide +kernel
theorem dL_stands_213 : decode cL_stands 213 = .ok (.bipush 10, 2) := by decide +kernel
theorem dL_stands_215 : decode cL_stands 215 = .ok (.invokevirtual 48, 3) := by decide +kernel
theorem dL_stands_218 : decode cL_stands 218 = .ok (.aload_n 0, 1) := by decide +kernel
theorem dL_stands_219 : decode cL_stands 219 = .ok (.iconst 0, 1) := by decide +kernel
theorem dL_stands_220 : decode cL_stands 220 = .ok (.iconst 0, 1) := by decide +kernel
theorem dL_stands_221 : decode cL_stands 221 = .ok (.invokevirtual 88, 3) := by decide +kernel
theorem dL_stands_224 : decode cL_stands 224 = .ok (.aload_n 0, 1) := by decide +kernel
theorem dL_stands_225 : decode cL_stands 225 = .ok (.iconst 1, 1) := by decide +kernel
theorem dL_stands_226 : decode cL_stands 226 = .ok (.iconst 0, 1) := by decide +kernel
theorem dL_stands_227 : decode cL_stands 227 = .ok (.invokevirtual 88, 3) := by decide +kernel
theorem dL_stands_230 : decode cL_stands 230 = .ok (.iadd, 1) := by decide +kernel
theorem dL_stands_231 : decode cL_stands 231 = .ok (.if_icmp .ne 53, 3) := by decide +kernel
theorem dL_stands_234 : decode cL_stands 234 = .ok (.aload_n 0, 1) := by decide +kernel
theorem dL_stands_235 : decode cL_stands 235 = .ok (.bipush 11, 2) := by decide +kernel
theorem dL_stands_237 : decode cL_stands 237 = .ok (.invokevirtual 48, 3) := by decide +kernel
theorem dL_stands_240 : decode cL_stands 240 = .ok (.aload_n 0, 1) := by decide +kernel
theorem dL_stands_241 : decode cL_stands 241 = .ok (.iconst 0, 1) := by decide +kernel
theorem dL_stands_242 : decode cL_stands 242 = .ok (.iconst 1, 1) := by decide +kernel
theorem dL_stands_243 : decode cL_stands 243 = .ok (.invokevirtual 88, 3) := by decide +kernel
theorem dL_stands_246 : decode cL_stands 246 = .ok (.aload_n 0, 1) := by decide +kernel
theorem dL_stands_247 : decode cL_stands 247 = .ok (.iconst 1, 1) := by decide +kernel
theorem dL_stands_248 : decode cL_stands 248 = .ok (.iconst 1, 1) := by decide +kernel
theorem dL_stands_249 : decode cL_stands 249 = .ok (.invokevirtual 88, 3) := by decide +kernel
theorem dL_stands_252 : decode cL_stands 252 = .ok (.iadd, 1) := by decide +kernel
theorem dL_stands_253 : decode cL_stands 253 = .ok (.if_icmp .ne 31, 3) := by decide +kernel
theorem dL_stands_256 : decode cL_stands 256 = .ok (.aload_n 0, 1) := by decide +kernel
theorem dL_stands_257 : decode cL_stands 257 = .ok (.iload_n 1, 1) := by decide +kernel
theorem dL_stands_258 : decode cL_stands 258 = .ok (.iconst 3, 1) := by decide +kernel
theorem dL_stands_259 : decode cL_stands 259 = .ok (.invokevirtual 88, 3) := by decide +kernel
theorem dL_stands_262 : decode cL_stands 262 = .ok (.aload_n 0, 1) := by decide +kernel
theorem dL_stands_263 : decode cL_stands 263 = .ok (.iload_n 1, 1) := by decide +kernel
theorem dL_stands_264 : decode cL_stands 264 = .ok (.iconst 4, 1) := by decide +kernel
theorem dL_stands_265 : decode cL_stands 265 = .ok (.invokevirtual 88, 3) := by decide +kernel
theorem dL_stands_268 : decode cL_stands 268 = .ok (.iadd, 1) := by decide +kernel
theorem dL_stands_269 : decode cL_stands 269 = .ok (.bipush 15, 2) := by decide +kernel
theorem dL_stands_271 : decode cL_stands 271 = .ok (.aload_n 0, 1) := by decide +kernel
theorem dL_stands_272 : decode cL_stands 272 = .ok (.iconst 4, 1) := by decide +kernel
theorem dL_stands_273 : decode cL_stands 273 = .ok (.invokevirtual 48, 3) := by decide +kernel
theorem dL_stands_276 : decode cL_stands 276 = .ok (.isub, 1) := by decide +kernel
theorem dL_stands_277 : decode cL_stands 277 = .ok (.if_icmp .ne 7, 3) := by decide +kernel
theorem dL_stands_280 : decode cL_stands 280 = .ok (.iconst 1, 1) := by decide +kernel
theorem dL_stands_281 : decode cL_stands 281 = .ok (.goto 4, 3) := by decide +kernel
theorem dL_stands_284 : decode cL_stands 284 = .ok (.iconst 0, 1) := by decide +kernel
theorem dL_stands_285 : decode cL_stands 285 = .ok (.ireturn, 1) := by decide +kernel
theorem dL_again_0 : decode cL_again 0 = .ok (.iconst 3, 1) := by decide +kernel
theorem dL_again_1 : decode cL_again 1 = .ok (.newarray .int, 2) := by decide +kernel
theorem dL_again_3 : decode cL_again 3 = .ok (.astore_n 1, 1) := by decide +kernel
theorem dL_again_4 : decode cL_again 4 = .ok (.iconst 3, 1) := by decide +kernel
theorem dL_again_5 : decode cL_again 5 = .ok (.newarray .int, 2) := by decide +kernel
theorem dL_again_7 : decode cL_again 7 = .ok (.astore_n 2, 1) := by decide +kernel
theorem dL_again_8 : decode cL_again 8 = .ok (.iconst 0, 1) := by decide +kernel
theorem dL_again_9 : decode cL_again 9 = .ok (.istore_n 3, 1) := by decide +kernel
theorem dL_again_10 : decode cL_again 10 = .ok (.iload_n 3, 1) := by decide +kernel
theorem dL_again_11 : decode cL_again 11 = .ok (.iconst 3, 1) := by decide +kernel
theorem dL_again_12 : decode cL_again 12 = .ok (.if_icmp .ge 25, 3) := by decide +kernel
theorem dL_again_15 : decode cL_again 15 = .ok (.aload_n 1, 1) := by decide +kernel
theorem dL_again_16 : decode cL_again 16 = .ok (.iload_n 3, 1) := by decide +kernel
theorem dL_again_17 : decode cL_again 17 = .ok (.aload_n 0, 1) := by decide +kernel
theorem dL_again_18 : decode cL_again 18 = .ok (.iload_n 3, 1) := by decide +kernel
theorem dL_again_19 : decode cL_again 19 = .ok (.invokevirtual 97, 3) := by decide +kernel
theorem dL_again_22 : decode cL_again 22 = .ok (.iastore, 1) := by decide +kernel
theorem dL_again_23 : decode cL_again 23 = .ok (.aload_n 2, 1) := by decide +kernel
theorem dL_again_24 : decode cL_again 24 = .ok (.iload_n 3, 1) := by decide +kernel
theorem dL_again_25 : decode cL_again 25 = .ok (.aload_n 0, 1) := by decide +kernel
theorem dL_again_26 : decode cL_again 26 = .ok (.iload_n 3, 1) := by decide +kernel
theorem dL_again_27 : decode cL_again 27 = .ok (.invokevirtual 109, 3) := by decide +kernel
theorem dL_again_30 : decode cL_again 30 = .ok (.iastore, 1) := by decide +kernel
theorem dL_again_31 : decode cL_again 31 = .ok (.iinc 3 1, 3) := by decide +kernel
theorem dL_again_34 : decode cL_again 34 = .ok (.goto (-24), 3) := by decide +kernel
theorem dL_again_37 : decode cL_again 37 = .ok (.aload_n 0, 1) := by decide +kernel
theorem dL_again_38 : decode cL_again 38 = .ok (.iconst 4, 1) := by decide +kernel
theorem dL_again_39 : decode cL_again 39 = .ok (.invokevirtual 48, 3) := by decide +kernel
theorem dL_again_42 : decode cL_again 42 = .ok (.istore_n 3, 1) := by decide +kernel
theorem dL_again_43 : decode cL_again 43 = .ok (.aload_n 0, 1) := by decide +kernel
theorem dL_again_44 : decode cL_again 44 = .ok (.iconst 1, 1) := by decide +kernel
theorem dL_again_45 : decode cL_again 45 = .ok (.invokevirtual 48, 3) := by decide +kernel
theorem dL_again_48 : decode cL_again 48 = .ok (.istore 4, 2) := by decide +kernel
theorem dL_again_50 : decode cL_again 50 = .ok (.aload_n 0, 1) := by decide +kernel
theorem dL_again_51 : decode cL_again 51 = .ok (.invokestatic 119, 3) := by decide +kernel
theorem dL_again_54 : decode cL_again 54 = .ok (.istore 5, 2) := by decide +kernel
theorem dL_again_56 : decode cL_again 56 = .ok (.aload_n 0, 1) := by decide +kernel
theorem dL_again_57 : decode cL_again 57 = .ok (.invokevirtual 103, 3) := by decide +kernel
theorem dL_again_60 : decode cL_again 60 = .ok (.iload 4, 2) := by decide +kernel
theorem dL_again_62 : decode cL_again 62 = .ok (.if_icmp .ne 21, 3) := by decide +kernel
theorem dL_again_65 : decode cL_again 65 = .ok (.aload_n 0, 1) := by decide +kernel
theorem dL_again_66 : decode cL_again 66 = .ok (.iconst 4, 1) := by decide +kernel
theorem dL_again_67 : decode cL_again 67 = .ok (.invokevirtual 48, 3) := by decide +kernel
theorem dL_again_70 : decode cL_again 70 = .ok (.iload_n 3, 1) := by decide +kernel
theorem dL_again_71 : decode cL_again 71 = .ok (.if_icmp .ne 12, 3) := by decide +kernel
theorem dL_again_74 : decode cL_again 74 = .ok (.aload_n 0, 1) := by decide +kernel
theorem dL_again_75 : decode cL_again 75 = .ok (.invokestatic 119, 3) := by decide +kernel
theorem dL_again_78 : decode cL_again 78 = .ok (.iload 5, 2) := by decide +kernel
theorem dL_again_80 : decode cL_again 80 = .ok (.if_icmp .eq 5, 3) := by decide +kernel
theorem dL_again_83 : decode cL_again 83 = .ok (.iconst 0, 1) := by decide +kernel
theorem dL_again_84 : decode cL_again 84 = .ok (.ireturn, 1) := by decide +kernel
theorem dL_again_85 : decode cL_again 85 = .ok (.iconst 0, 1) := by decide +kernel
theorem dL_again_86 : decode cL_again 86 = .ok (.istore 6, 2) := by decide +kernel
theorem dL_again_88 : decode cL_again 88 = .ok (.iload 6, 2) := by decide +kernel
theorem dL_again_90 : decode cL_again 90 = .ok (.iconst 3, 1) := by decide +kernel
theorem dL_again_91 : decode cL_again 91 = .ok (.if_icmp .ge 37, 3) := by decide +kernel
theorem dL_again_94 : decode cL_again 94 = .ok (.aload_n 0, 1) := by decide +kernel
theorem dL_again_95 : decode cL_again 95 = .ok (.iload 6, 2) := by decide +kernel
theorem dL_again_97 : decode cL_again 97 = .ok (.invokevirtual 97, 3) := by decide +kernel
theorem dL_again_100 : decode cL_again 100 = .ok (.aload_n 1, 1) := by decide +kernel
theorem dL_again_101 : decode cL_again 101 = .ok (.iload 6, 2) := by decide +kernel
theorem dL_again_103 : decode cL_again 103 = .ok (.iaload, 1) := by decide +kernel
theorem dL_again_104 : decode cL_again 104 = .ok (.if_icmp .ne 16, 3) := by decide +kernel
theorem dL_again_107 : decode cL_again 107 = .ok (.aload_n 0, 1) := by decide +kernel
theorem dL_again_108 : decode cL_again 108 = .ok (.iload 6, 2) := by decide +kernel
theorem dL_again_110 : decode cL_again 110 = .ok (.invokevirtual 109, 3) := by decide +kernel
theorem dL_again_113 : decode cL_again 113 = .ok (.aload_n 2, 1) := by decide +kernel
theorem dL_again_114 : decode cL_again 114 = .ok (.iload 6, 2) := by decide +kernel
theorem dL_again_116 : decode cL_again 116 = .ok (.iaload, 1) := by decide +kernel
theorem dL_again_117 : decode cL_again 117 = .ok (.if_icmp .eq 5, 3) := by decide +kernel
theorem dL_again_120 : decode cL_again 120 = .ok (.iconst 0, 1) := by decide +kernel
theorem dL_again_121 : decode cL_again 121 = .ok (.ireturn, 1) := by decide +kernel
theorem dL_again_122 : decode cL_again 122 = .ok (.iinc 6 1, 3) := by decide +kernel
theorem dL_again_125 : decode cL_again 125 = .ok (.goto (-37), 3) := by decide +kernel
theorem dL_again_128 : decode cL_again 128 = .ok (.iconst 1, 1) := by decide +kernel
theorem dL_again_129 : decode cL_again 129 = .ok (.ireturn, 1) := by decide +kernel
theorem dL_spoils_0 : decode cL_spoils 0 = .ok (.iload_n 1, 1) := by decide +kernel
theorem dL_spoils_1 : decode cL_spoils 1 = .ok (.iconst 3, 1) := by decide +kernel
theorem dL_spoils_2 : decode cL_spoils 2 = .ok (.invokestatic 30, 3) := by decide +kernel
theorem dL_spoils_5 : decode cL_spoils 5 = .ok (.istore_n 2, 1) := by decide +kernel
theorem dL_spoils_6 : decode cL_spoils 6 = .ok (.aload_n 0, 1) := by decide +kernel
theorem dL_spoils_7 : decode cL_spoils 7 = .ok (.iconst 1, 1) := by decide +kernel
theorem dL_spoils_8 : decode cL_spoils 8 = .ok (.invokevirtual 48, 3) := by decide +kernel
theorem dL_spoils_11 : decode cL_spoils 11 = .ok (.istore_n 3, 1) := by decide +kernel
theorem dL_spoils_12 : decode cL_spoils 12 = .ok (.aload_n 0, 1) := by decide +kernel
theorem dL_spoils_13 : decode cL_spoils 13 = .ok (.bipush 10, 2) := by decide +kernel
theorem dL_spoils_15 : decode cL_spoils 15 = .ok (.invokevirtual 48, 3) := by decide +kernel
theorem dL_spoils_18 : decode cL_spoils 18 = .ok (.istore 4, 2) := by decide +kernel
theorem dL_spoils_20 : decode cL_spoils 20 = .ok (.aload_n 0, 1) := by decide +kernel
theorem dL_spoils_21 : decode cL_spoils 21 = .ok (.iload_n 2, 1) := by decide +kernel
theorem dL_spoils_22 : decode cL_spoils 22 = .ok (.invokevirtual 109, 3) := by decide +kernel
theorem dL_spoils_25 : decode cL_spoils 25 = .ok (.istore 5, 2) := by decide +kernel
theorem dL_spoils_27 : decode cL_spoils 27 = .ok (.aload_n 0, 1) := by decide +kernel
theorem dL_spoils_28 : decode cL_spoils 28 = .ok (.iload_n 2, 1) := by decide +kernel
theorem dL_spoils_29 : decode cL_spoils 29 = .ok (.invokevirtual 97, 3) := by decide +kernel
theorem dL_spoils_32 : decode cL_spoils 32 = .ok (.istore 6, 2) := by decide +kernel
theorem dL_spoils_34 : decode cL_spoils 34 = .ok (.aload_n 0, 1) := by decide +kernel
theorem dL_spoils_35 : decode cL_spoils 35 = .ok (.iconst 0, 1) := by decide +kernel
theorem dL_spoils_36 : decode cL_spoils 36 = .ok (.invokevirtual 123, 3) := by decide +kernel
theorem dL_spoils_39 : decode cL_spoils 39 = .ok (.pop, 1) := by decide +kernel
theorem dL_spoils_40 : decode cL_spoils 40 = .ok (.iload 5, 2) := by decide +kernel
theorem dL_spoils_42 : decode cL_spoils 42 = .ok (.ifCond .lt 147, 3) := by decide +kernel
theorem dL_spoils_45 : decode cL_spoils 45 = .ok (.aload_n 0, 1) := by decide +kernel
theorem dL_spoils_46 : decode cL_spoils 46 = .ok (.iload_n 3, 1) := by decide +kernel
theorem dL_spoils_47 : decode cL_spoils 47 = .ok (.iload 5, 2) := by decide +kernel
theorem dL_spoils_49 : decode cL_spoils 49 = .ok (.iconst 2, 1) := by decide +kernel
theorem dL_spoils_50 : decode cL_spoils 50 = .ok (.iadd, 1) := by decide +kernel
theorem dL_spoils_51 : decode cL_spoils 51 = .ok (.invokevirtual 83, 3) := by decide +kernel
theorem dL_spoils_54 : decode cL_spoils 54 = .ok (.istore 7, 2) := by decide +kernel
theorem dL_spoils_56 : decode cL_spoils 56 = .ok (.aload_n 0, 1) := by decide +kernel
theorem dL_spoils_57 : decode cL_spoils 57 = .ok (.iload_n 3, 1) := by decide +kernel
theorem dL_spoils_58 : decode cL_spoils 58 = .ok (.iconst 4, 1) := by decide +kernel
theorem dL_spoils_59 : decode cL_spoils 59 = .ok (.invokevirtual 88, 3) := by decide +kernel
theorem dL_spoils_62 : decode cL_spoils 62 = .ok (.istore 8, 2) := by decide +kernel
theorem dL_spoils_64 : decode cL_spoils 64 = .ok (.aload_n 0, 1) := by decide +kernel
theorem dL_spoils_65 : decode cL_spoils 65 = .ok (.iload_n 3, 1) := by decide +kernel
theorem dL_spoils_66 : decode cL_spoils 66 = .ok (.iload 5, 2) := by decide +kernel
theorem dL_spoils_68 : decode cL_spoils 68 = .ok (.iconst 2, 1) := by decide +kernel
theorem dL_spoils_69 : decode cL_spoils 69 = .ok (.iadd, 1) := by decide +kernel
theorem dL_spoils_70 : decode cL_spoils 70 = .ok (.iload 7, 2) := by decide +kernel
theorem dL_spoils_72 : decode cL_spoils 72 = .ok (.iconst 1, 1) := by decide +kernel
theorem dL_spoils_73 : decode cL_spoils 73 = .ok (.iadd, 1) := by decide +kernel
theorem dL_spoils_74 : decode cL_spoils 74 = .ok (.iload_n 1, 1) := by decide +kernel
theorem dL_spoils_75 : decode cL_spoils 75 = .ok (.iconst 3, 1) := by decide +kernel
theorem dL_spoils_76 : decode cL_spoils 76 = .ok (.ishr, 1) := by decide +kernel
theorem dL_spoils_77 : decode cL_spoils 77 = .ok (.sipush 249, 3) := by decide +kernel
theorem dL_spoils_80 : decode cL_spoils 80 = .ok (.invokestatic 30, 3) := by decide +kernel
theorem dL_spoils_83 : decode cL_spoils 83 = .ok (.iadd, 1) := by decide +kernel
theorem dL_spoils_84 : decode cL_spoils 84 = .ok (.sipush 251, 3) := by decide +kernel
theorem dL_spoils_87 : decode cL_spoils 87 = .ok (.irem, 1) := by decide +kernel
theorem dL_spoils_88 : decode cL_spoils 88 = .ok (.invokevirtual 126, 3) := by decide +kernel
theorem dL_spoils_91 : decode cL_spoils 91 = .ok (.iload 7, 2) := by decide +kernel
theorem dL_spoils_93 : decode cL_spoils 93 = .ok (.if_icmp .ne 36, 3) := by decide +kernel
theorem dL_spoils_96 : decode cL_spoils 96 = .ok (.aload_n 0, 1) := by decide +kernel
theorem dL_spoils_97 : decode cL_spoils 97 = .ok (.iload_n 2, 1) := by decide +kernel
theorem dL_spoils_98 : decode cL_spoils 98 = .ok (.invokevirtual 97, 3) := by decide +kernel
theorem dL_spoils_101 : decode cL_spoils 101 = .ok (.iload 6, 2) := by decide +kernel
theorem dL_spoils_103 : decode cL_spoils 103 = .ok (.if_icmp .ne 26, 3) := by decide +kernel
theorem dL_spoils_106 : decode cL_spoils 106 = .ok (.aload_n 0, 1) := by decide +kernel
theorem dL_spoils_107 : decode cL_spoils 107 = .ok (.iload_n 2, 1) := by decide +kernel
theorem dL_spoils_108 : decode cL_spoils 108 = .ok (.invokevirtual 109, 3) := by decide +kernel
theorem dL_spoils_111 : decode cL_spoils 111 = .ok (.iload 5, 2) := by decide +kernel
theorem dL_spoils_113 : decode cL_spoils 113 = .ok (.if_icmp .ne 16, 3) := by decide +kernel
theorem dL_spoils_116 : decode cL_spoils 116 = .ok (.aload_n 0, 1) := by decide +kernel
theorem dL_spoils_117 : decode cL_spoils 117 = .ok (.iload_n 3, 1) := by decide +kernel
theorem dL_spoils_118 : decode cL_spoils 118 = .ok (.iconst 4, 1) := by decide +kernel
theorem dL_spoils_119 : decode cL_spoils 119 = .ok (.invokevirtual 88, 3) := by decide +kernel
theorem dL_spoils_122 : decode cL_spoils 122 = .ok (.iload 8, 2) := by decide +kernel
theorem dL_spoils_124 : decode cL_spoils 124 = .ok (.iconst 1, 1) := by decide +kernel
theorem dL_spoils_125 : decode cL_spoils 125 = .ok (.iadd, 1) := by decide +kernel
theorem dL_spoils_126 : decode cL_spoils 126 = .ok (.if_icmp .eq 5, 3) := by decide +kernel
theorem dL_spoils_129 : decode cL_spoils 129 = .ok (.iconst 0, 1) := by decide +kernel
theorem dL_spoils_130 : decode cL_spoils 130 = .ok (.ireturn, 1) := by decide +kernel
theorem dL_spoils_131 : decode cL_spoils 131 = .ok (.aload_n 0, 1) := by decide +kernel
theorem dL_spoils_132 : decode cL_spoils 132 = .ok (.invokevirtual 103, 3) := by decide +kernel
theorem dL_spoils_135 : decode cL_spoils 135 = .ok (.pop, 1) := by decide +kernel
theorem dL_spoils_136 : decode cL_spoils 136 = .ok (.aload_n 0, 1) := by decide +kernel
theorem dL_spoils_137 : decode cL_spoils 137 = .ok (.iload_n 2, 1) := by decide +kernel
theorem dL_spoils_138 : decode cL_spoils 138 = .ok (.invokevirtual 109, 3) := by decide +kernel
theorem dL_spoils_141 : decode cL_spoils 141 = .ok (.iload 5, 2) := by decide +kernel
theorem dL_spoils_143 : decode cL_spoils 143 = .ok (.if_icmp .ge 15, 3) := by decide +kernel
theorem dL_spoils_146 : decode cL_spoils 146 = .ok (.aload_n 0, 1) := by decide +kernel
theorem dL_spoils_147 : decode cL_spoils 147 = .ok (.iconst 5, 1) := by decide +kernel
theorem dL_spoils_148 : decode cL_spoils 148 = .ok (.invokevirtual 48, 3) := by decide +kernel
theorem dL_spoils_151 : decode cL_spoils 151 = .ok (.iload 8, 2) := by decide +kernel
theorem dL_spoils_153 : decode cL_spoils 153 = .ok (.iconst 1, 1) := by decide +kernel
theorem dL_spoils_154 : decode cL_spoils 154 = .ok (.iadd, 1) := by decide +kernel
theorem dL_spoils_155 : decode cL_spoils 155 = .ok (.if_icmp .eq 5, 3) := by decide +kernel
theorem dL_spoils_158 : decode cL_spoils 158 = .ok (.iconst 0, 1) := by decide +kernel
theorem dL_spoils_159 : decode cL_spoils 159 = .ok (.ireturn, 1) := by decide +kernel
theorem dL_spoils_160 : decode cL_spoils 160 = .ok (.aload_n 0, 1) := by decide +kernel
theorem dL_spoils_161 : decode cL_spoils 161 = .ok (.iload_n 2, 1) := by decide +kernel
theorem dL_spoils_162 : decode cL_spoils 162 = .ok (.invokevirtual 109, 3) := by decide +kernel
theorem dL_spoils_165 : decode cL_spoils 165 = .ok (.ifCond .ge 24, 3) := by decide +kernel
theorem dL_spoils_168 : decode cL_spoils 168 = .ok (.aload_n 0, 1) := by decide +kernel
theorem dL_spoils_169 : decode cL_spoils 169 = .ok (.iload_n 2, 1) := by decide +kernel
theorem dL_spoils_170 : decode cL_spoils 170 = .ok (.invokevirtual 97, 3) := by decide +kernel
theorem dL_spoils_173 : decode cL_spoils 173 = .ok (.aload_n 0, 1) := by decide +kernel
theorem dL_spoils_174 : decode cL_spoils 174 = .ok (.aload_n 0, 1) := by decide +kernel
theorem dL_spoils_175 : decode cL_spoils 175 = .ok (.iconst 2, 1) := by decide +kernel
theorem dL_spoils_176 : decode cL_spoils 176 = .ok (.invokevirtual 48, 3) := by decide +kernel
theorem dL_spoils_179 : decode cL_spoils 179 = .ok (.iload_n 2, 1) := by decide +kernel
theorem dL_spoils_180 : decode cL_spoils 180 = .ok (.iconst 1, 1) := by decide +kernel
theorem dL_spoils_181 : decode cL_spoils 181 = .ok (.invokevirtual 79, 3) := by decide +kernel
theorem dL_spoils_184 : decode cL_spoils 184 = .ok (.if_icmp .eq 5, 3) := by decide +kernel
theorem dL_spoils_187 : decode cL_spoils 187 = .ok (.iconst 0, 1) := by decide +kernel
theorem dL_spoils_188 : decode cL_spoils 188 = .ok (.ireturn, 1) := by decide +kernel
theorem dL_spoils_189 : decode cL_spoils 189 = .ok (.aload_n 0, 1) := by decide +kernel
theorem dL_spoils_190 : decode cL_spoils 190 = .ok (.iload_n 3, 1) := by decide +kernel
theorem dL_spoils_191 : decode cL_spoils 191 = .ok (.iconst 1, 1) := by decide +kernel
theorem dL_spoils_192 : decode cL_spoils 192 = .ok (.invokevirtual 83, 3) := by decide +kernel
theorem dL_spoils_195 : decode cL_spoils 195 = .ok (.istore 7, 2) := by decide +kernel
theorem dL_spoils_197 : decode cL_spoils 197 = .ok (.aload_n 0, 1) := by decide +kernel
theorem dL_spoils_198 : decode cL_spoils 198 = .ok (.iconst 1, 1) := by decide +kernel
theorem dL_spoils_199 : decode cL_spoils 199 = .ok (.iload_n 3, 1) := by decide +kernel
theorem dL_spoils_200 : decode cL_spoils 200 = .ok (.isub, 1) := by decide +kernel
theorem dL_spoils_201 : decode cL_spoils 201 = .ok (.iconst 2, 1) := by decide +kernel
theorem dL_spoils_202 : decode cL_spoils 202 = .ok (.invokevirtual 88, 3) := by decide +kernel
theorem dL_spoils_205 : decode cL_spoils 205 = .ok (.istore 8, 2) := by decide +kernel
theorem dL_spoils_207 : decode cL_spoils 207 = .ok (.aload_n 0, 1) := by decide +kernel
theorem dL_spoils_208 : decode cL_spoils 208 = .ok (.iload_n 3, 1) := by decide +kernel
theorem dL_spoils_209 : decode cL_spoils 209 = .ok (.iconst 1, 1) := by decide +kernel
theorem dL_spoils_210 : decode cL_spoils 210 = .ok (.bipush (-6), 2) := by decide +kernel
theorem dL_spoils_212 : decode cL_spoils 212 = .ok (.invokevirtual 126, 3) := by decide +kernel
theorem dL_spoils_215 : decode cL_spoils 215 = .ok (.iload 7, 2) := by decide +kernel
theorem dL_spoils_217 : decode cL_spoils 217 = .ok (.if_icmp .ne 21, 3) := by decide +kernel
theorem dL_spoils_220 : decode cL_spoils 220 = .ok (.aload_n 0, 1) := by decide +kernel
theorem dL_spoils_221 : decode cL_spoils 221 = .ok (.iload_n 3, 1) := by decide +kernel
theorem dL_spoils_222 : decode cL_spoils 222 = .ok (.iconst 2, 1) := by decide +kernel
theorem dL_spoils_223 : decode cL_spoils 223 = .ok (.invokevirtual 88, 3) := by decide +kernel
theorem dL_spoils_226 : decode cL_spoils 226 = .ok (.ifCond .ne 12, 3) := by decide +kernel
theorem dL_spoils_229 : decode cL_spoils 229 = .ok (.aload_n 0, 1) := by decide +kernel
theorem dL_spoils_230 : decode cL_spoils 230 = .ok (.iload_n 3, 1) := by decide +kernel
theorem dL_spoils_231 : decode cL_spoils 231 = .ok (.iconst 3, 1) := by decide +kernel
theorem dL_spoils_232 : decode cL_spoils 232 = .ok (.invokevirtual 88, 3) := by decide +kernel
theorem dL_spoils_235 : decode cL_spoils 235 = .ok (.ifCond .eq 5, 3) := by decide +kernel
theorem dL_spoils_238 : decode cL_spoils 238 = .ok (.iconst 0, 1) := by decide +kernel
theorem dL_spoils_239 : decode cL_spoils 239 = .ok (.ireturn, 1) := by decide +kernel
theorem dL_spoils_240 : decode cL_spoils 240 = .ok (.aload_n 0, 1) := by decide +kernel
theorem dL_spoils_241 : decode cL_spoils 241 = .ok (.invokevirtual 103, 3) := by decide +kernel
theorem dL_spoils_244 : decode cL_spoils 244 = .ok (.istore 9, 2) := by decide +kernel
theorem dL_spoils_246 : decode cL_spoils 246 = .ok (.iload 8, 2) := by decide +kernel
theorem dL_spoils_248 : decode cL_spoils 248 = .ok (.ifCond .ne 31, 3) := by decide +kernel
theorem dL_spoils_251 : decode cL_spoils 251 = .ok (.iload 9, 2) := by decide +kernel
theorem dL_spoils_253 : decode cL_spoils 253 = .ok (.bipush (-6), 2) := by decide +kernel
theorem dL_spoils_255 : decode cL_spoils 255 = .ok (.if_icmp .ne 32, 3) := by decide +kernel
theorem dL_spoils_258 : decode cL_spoils 258 = .ok (.aload_n 0, 1) := by decide +kernel
theorem dL_spoils_259 : decode cL_spoils 259 = .ok (.iload_n 2, 1) := by decide +kernel
theorem dL_spoils_260 : decode cL_spoils 260 = .ok (.invokevirtual 97, 3) := by decide +kernel
theorem dL_spoils_263 : decode cL_spoils 263 = .ok (.iconst (-1), 1) := by decide +kernel
theorem dL_spoils_264 : decode cL_spoils 264 = .ok (.if_icmp .ne 23, 3) := by decide +kernel
theorem dL_spoils_267 : decode cL_spoils 267 = .ok (.aload_n 0, 1) := by decide +kernel
theorem dL_spoils_268 : decode cL_spoils 268 = .ok (.bipush 6, 2) := by decide +kernel
theorem dL_spoils_270 : decode cL_spoils 270 = .ok (.invokevirtual 48, 3) := by decide +kernel
theorem dL_spoils_273 : decode cL_spoils 273 = .ok (.ifCond .eq 16, 3) := by decide +kernel
theorem dL_spoils_276 : decode cL_spoils 276 = .ok (.goto 11, 3) := by decide +kernel
theorem dL_spoils_279 : decode cL_spoils 279 = .ok (.iload 9, 2) := by decide +kernel
theorem dL_spoils_281 : decode cL_spoils 281 = .ok (.iconst 1, 1) := by decide +kernel
theorem dL_spoils_282 : decode cL_spoils 282 = .ok (.iload_n 3, 1) := by decide +kernel
theorem dL_spoils_283 : decode cL_spoils 283 = .ok (.isub, 1) := by decide +kernel
theorem dL_spoils_284 : decode cL_spoils 284 = .ok (.if_icmp .eq 5, 3) := by decide +kernel
theorem dL_spoils_287 : decode cL_spoils 287 = .ok (.iconst 0, 1) := by decide +kernel
theorem dL_spoils_288 : decode cL_spoils 288 = .ok (.ireturn, 1) := by decide +kernel
theorem dL_spoils_289 : decode cL_spoils 289 = .ok (.aload_n 0, 1) := by decide +kernel
theorem dL_spoils_290 : decode cL_spoils 290 = .ok (.iload_n 3, 1) := by decide +kernel
theorem dL_spoils_291 : decode cL_spoils 291 = .ok (.iconst 1, 1) := by decide +kernel
theorem dL_spoils_292 : decode cL_spoils 292 = .ok (.iload 7, 2) := by decide +kernel
theorem dL_spoils_294 : decode cL_spoils 294 = .ok (.invokevirtual 126, 3) := by decide +kernel
theorem dL_spoils_297 : decode cL_spoils 297 = .ok (.bipush (-6), 2) := by decide +kernel
theorem dL_spoils_299 : decode cL_spoils 299 = .ok (.if_icmp .ne 16, 3) := by decide +kernel
theorem dL_spoils_302 : decode cL_spoils 302 = .ok (.aload_n 0, 1) := by decide +kernel
theorem dL_spoils_303 : decode cL_spoils 303 = .ok (.invokevirtual 103, 3) := by decide +kernel
theorem dL_spoils_306 : decode cL_spoils 306 = .ok (.iload_n 3, 1) := by decide +kernel
theorem dL_spoils_307 : decode cL_spoils 307 = .ok (.if_icmp .eq 10, 3) := by decide +kernel
theorem dL_spoils_310 : decode cL_spoils 310 = .ok (.iload 8, 2) := by decide +kernel
theorem dL_spoils_312 : decode cL_spoils 312 = .ok (.ifCond .ne 5, 3) := by decide +kernel
theorem dL_spoils_315 : decode cL_spoils 315 = .ok (.iconst 0, 1) := by decide +kernel
theorem dL_spoils_316 : decode cL_spoils 316 = .ok (.ireturn, 1) := by decide +kernel
theorem dL_spoils_317 : decode cL_spoils 317 = .ok (.aload_n 0, 1) := by decide +kernel
theorem dL_spoils_318 : decode cL_spoils 318 = .ok (.bipush 10, 2) := by decide +kernel
theorem dL_spoils_320 : decode cL_spoils 320 = .ok (.invokevirtual 48, 3) := by decide +kernel
theorem dL_spoils_323 : decode cL_spoils 323 = .ok (.iload 4, 2) := by decide +kernel
theorem dL_spoils_325 : decode cL_spoils 325 = .ok (.if_icmp .ne 36, 3) := by decide +kernel
theorem dL_spoils_328 : decode cL_spoils 328 = .ok (.aload_n 0, 1) := by decide +kernel
theorem dL_spoils_329 : decode cL_spoils 329 = .ok (.iconst 0, 1) := by decide +kernel
theorem dL_spoils_330 : decode cL_spoils 330 = .ok (.invokevirtual 129, 3) := by decide +kernel
theorem dL_spoils_333 : decode cL_spoils 333 = .ok (.iload_n 3, 1) := by decide +kernel
theorem dL_spoils_334 : decode cL_spoils 334 = .ok (.if_icmp .ne 27, 3) := by decide +kernel
theorem dL_spoils_337 : decode cL_spoils 337 = .ok (.aload_n 0, 1) := by decide +kernel
theorem dL_spoils_338 : decode cL_spoils 338 = .ok (.iload_n 2, 1) := by decide +kernel
theorem dL_spoils_339 : decode cL_spoils 339 = .ok (.invokevirtual 97, 3) := by decide +kernel
theorem dL_spoils_342 : decode cL_spoils 342 = .ok (.iload 6, 2) := by decide +kernel
theorem dL_spoils_344 : decode cL_spoils 344 = .ok (.if_icmp .ne 17, 3) := by decide +kernel
theorem dL_spoils_347 : decode cL_spoils 347 = .ok (.aload_n 0, 1) := by decide +kernel
theorem dL_spoils_348 : decode cL_spoils 348 = .ok (.iload_n 2, 1) := by decide +kernel
theorem dL_spoils_349 : decode cL_spoils 349 = .ok (.invokevirtual 109, 3) := by decide +kernel
theorem dL_spoils_352 : decode cL_spoils 352 = .ok (.iload 5, 2) := by decide +kernel
theorem dL_spoils_354 : decode cL_spoils 354 = .ok (.if_icmp .ne 7, 3) := by decide +kernel
theorem dL_spoils_357 : decode cL_spoils 357 = .ok (.iconst 1, 1) := by decide +kernel
theorem dL_spoils_358 : decode cL_spoils 358 = .ok (.goto 4, 3) := by decide +kernel
theorem dL_spoils_361 : decode cL_spoils 361 = .ok (.iconst 0, 1) := by decide +kernel
theorem dL_spoils_362 : decode cL_spoils 362 = .ok (.ireturn, 1) := by decide +kernel
theorem dL_moves_0 : decode cL_moves 0 = .ok (.aload_n 0, 1) := by decide +kernel
theorem dL_moves_1 : decode cL_moves 1 = .ok (.iconst 2, 1) := by decide +kernel
theorem dL_moves_2 : decode cL_moves 2 = .ok (.invokevirtual 48, 3) := by decide +kernel
theorem dL_moves_5 : decode cL_moves 5 = .ok (.istore_n 2, 1) := by decide +kernel
theorem dL_moves_6 : decode cL_moves 6 = .ok (.aload_n 0, 1) := by decide +kernel
theorem dL_moves_7 : decode cL_moves 7 = .ok (.bipush 8, 2) := by decide +kernel
theorem dL_moves_9 : decode cL_moves 9 = .ok (.invokevirtual 48, 3) := by decide +kernel
theorem dL_moves_12 : decode cL_moves 12 = .ok (.iconst 1, 1) := by decide +kernel
theorem dL_moves_13 : decode cL_moves 13 = .ok (.isub, 1) := by decide +kernel
theorem dL_moves_14 : decode cL_moves 14 = .ok (.istore_n 3, 1) := by decide +kernel
theorem dL_moves_15 : decode cL_moves 15 = .ok (.aload_n 0, 1) := by decide +kernel
theorem dL_moves_16 : decode cL_moves 16 = .ok (.iconst 0, 1) := by decide +kernel
theorem dL_moves_17 : decode cL_moves 17 = .ok (.invokevirtual 123, 3) := by decide +kernel
theorem dL_moves_20 : decode cL_moves 20 = .ok (.pop, 1) := by decide +kernel
theorem dL_moves_21 : decode cL_moves 21 = .ok (.iload_n 2, 1) := by decide +kernel
theorem dL_moves_22 : decode cL_moves 22 = .ok (.iload_n 3, 1) := by decide +kernel
theorem dL_moves_23 : decode cL_moves 23 = .ok (.if_icmp .ge 244, 3) := by decide +kernel
theorem dL_moves_26 : decode cL_moves 26 = .ok (.iconst 3, 1) := by decide +kernel
theorem dL_moves_27 : decode cL_moves 27 = .ok (.newarray .int, 2) := by decide +kernel
theorem dL_moves_29 : decode cL_moves 29 = .ok (.astore 4, 2) := by decide +kernel
theorem dL_moves_31 : decode cL_moves 31 = .ok (.iconst 0, 1) := by decide +kernel
theorem dL_moves_32 : decode cL_moves 32 = .ok (.istore 5, 2) := by decide +kernel
theorem dL_moves_34 : decode cL_moves 34 = .ok (.iload 5, 2) := by decide +kernel
theorem dL_moves_36 : decode cL_moves 36 = .ok (.iconst 3, 1) := by decide +kernel
theorem dL_moves_37 : decode cL_moves 37 = .ok (.if_icmp .ge 21, 3) := by decide +kernel
theorem dL_moves_40 : decode cL_moves 40 = .ok (.aload 4, 2) := by decide +kernel
theorem dL_moves_42 : decode cL_moves 42 = .ok (.iload 5, 2) := by decide +kernel
theorem dL_moves_44 : decode cL_moves 44 = .ok (.aload_n 0, 1) := by decide +kernel
theorem dL_moves_45 : decode cL_moves 45 = .ok (.iload_n 3, 1) := by decide +kernel
theorem dL_moves_46 : decode cL_moves 46 = .ok (.iload 5, 2) := by decide +kernel
theorem dL_moves_48 : decode cL_moves 48 = .ok (.invokevirtual 94, 3) := by decide +kernel
theorem dL_moves_51 : decode cL_moves 51 = .ok (.iastore, 1) := by decide +kernel
theorem dL_moves_52 : decode cL_moves 52 = .ok (.iinc 5 1, 3) := by decide +kernel
theorem dL_moves_55 : decode cL_moves 55 = .ok (.goto (-21), 3) := by decide +kernel
theorem dL_moves_58 : decode cL_moves 58 = .ok (.aload_n 0, 1) := by decide +kernel
theorem dL_moves_59 : decode cL_moves 59 = .ok (.iload_n 3, 1) := by decide +kernel
theorem dL_moves_60 : decode cL_moves 60 = .ok (.invokevirtual 91, 3) := by decide +kernel
theorem dL_moves_63 : decode cL_moves 63 = .ok (.istore 5, 2) := by decide +kernel
theorem dL_moves_65 : decode cL_moves 65 = .ok (.aload_n 0, 1) := by decide +kernel
theorem dL_moves_66 : decode cL_moves 66 = .ok (.bipush 7, 2) := by decide +kernel
theorem dL_moves_68 : decode cL_moves 68 = .ok (.invokevirtual 48, 3) := by decide +kernel
theorem dL_moves_71 : decode cL_moves 71 = .ok (.istore 6, 2) := by decide +kernel
theorem dL_moves_73 : decode cL_moves 73 = .ok (.iconst 0, 1) := by decide +kernel
theorem dL_moves_74 : decode cL_moves 74 = .ok (.istore 7, 2) := by decide +kernel
theorem dL_moves_76 : decode cL_moves 76 = .ok (.iload 7, 2) := by decide +kernel
theorem dL_moves_78 : decode cL_moves 78 = .ok (.iconst 3, 1) := by decide +kernel
theorem dL_moves_79 : decode cL_moves 79 = .ok (.if_icmp .ge 25, 3) := by decide +kernel
theorem dL_moves_82 : decode cL_moves 82 = .ok (.aload_n 0, 1) := by decide +kernel
theorem dL_moves_83 : decode cL_moves 83 = .ok (.iload 7, 2) := by decide +kernel
theorem dL_moves_85 : decode cL_moves 85 = .ok (.invokevirtual 97, 3) := by decide +kernel
theorem dL_moves_88 : decode cL_moves 88 = .ok (.aload 4, 2) := by decide +kernel
theorem dL_moves_90 : decode cL_moves 90 = .ok (.iload 7, 2) := by decide +kernel
theorem dL_moves_92 : decode cL_moves 92 = .ok (.iaload, 1) := by decide +kernel
theorem dL_moves_93 : decode cL_moves 93 = .ok (.if_icmp .eq 5, 3) := by decide +kernel
theorem dL_moves_96 : decode cL_moves 96 = .ok (.iconst 0, 1) := by decide +kernel
theorem dL_moves_97 : decode cL_moves 97 = .ok (.ireturn, 1) := by decide +kernel
theorem dL_moves_98 : decode cL_moves 98 = .ok (.iinc 7 1, 3) := by decide +kernel
theorem dL_moves_101 : decode cL_moves 101 = .ok (.goto (-25), 3) := by decide +kernel
theorem dL_moves_104 : decode cL_moves 104 = .ok (.aload_n 0, 1) := by decide +kernel
theorem dL_moves_105 : decode cL_moves 105 = .ok (.iconst 0, 1) := by decide +kernel
theorem dL_moves_106 : decode cL_moves 106 = .ok (.invokevirtual 129, 3) := by decide +kernel
theorem dL_moves_109 : decode cL_moves 109 = .ok (.pop, 1) := by decide +kernel
theorem dL_moves_110 : decode cL_moves 110 = .ok (.iload_n 2, 1) := by decide +kernel
theorem dL_moves_111 : decode cL_moves 111 = .ok (.iconst 1, 1) := by decide +kernel
theorem dL_moves_112 : decode cL_moves 112 = .ok (.iadd, 1) := by decide +kernel
theorem dL_moves_113 : decode cL_moves 113 = .ok (.istore 7, 2) := by decide +kernel
theorem dL_moves_115 : decode cL_moves 115 = .ok (.iload 7, 2) := by decide +kernel
theorem dL_moves_117 : decode cL_moves 117 = .ok (.iload_n 3, 1) := by decide +kernel
theorem dL_moves_118 : decode cL_moves 118 = .ok (.if_icmp .gt 21, 3) := by decide +kernel
theorem dL_moves_121 : decode cL_moves 121 = .ok (.aload_n 0, 1) := by decide +kernel
theorem dL_moves_122 : decode cL_moves 122 = .ok (.iload 7, 2) := by decide +kernel
theorem dL_moves_124 : decode cL_moves 124 = .ok (.invokevirtual 91, 3) := by decide +kernel
theorem dL_moves_127 : decode cL_moves 127 = .ok (.iconst 3, 1) := by decide +kernel
theorem dL_moves_128 : decode cL_moves 128 = .ok (.if_icmp .ge 5, 3) := by decide +kernel
theorem dL_moves_131 : decode cL_moves 131 = .ok (.iconst 0, 1) := by decide +kernel
theorem dL_moves_132 : decode cL_moves 132 = .ok (.ireturn, 1) := by decide +kernel
theorem dL_moves_133 : decode cL_moves 133 = .ok (.iinc 7 1, 3) := by decide +kernel
theorem dL_moves_136 : decode cL_moves 136 = .ok (.goto (-21), 3) := by decide +kernel
theorem dL_moves_139 : decode cL_moves 139 = .ok (.iconst 0, 1) := by decide +kernel
theorem dL_moves_140 : decode cL_moves 140 = .ok (.istore 7, 2) := by decide +kernel
theorem dL_moves_142 : decode cL_moves 142 = .ok (.iload 7, 2) := by decide +kernel
theorem dL_moves_144 : decode cL_moves 144 = .ok (.iconst 3, 1) := by decide +kernel
theorem dL_moves_145 : decode cL_moves 145 = .ok (.if_icmp .ge 25, 3) := by decide +kernel
theorem dL_moves_148 : decode cL_moves 148 = .ok (.aload_n 0, 1) := by decide +kernel
theorem dL_moves_149 : decode cL_moves 149 = .ok (.iload 7, 2) := by decide +kernel
theorem dL_moves_151 : decode cL_moves 151 = .ok (.invokevirtual 97, 3) := by decide +kernel
theorem dL_moves_154 : decode cL_moves 154 = .ok (.aload 4, 2) := by decide +kernel
theorem dL_moves_156 : decode cL_moves 156 = .ok (.iload 7, 2) := by decide +kernel
theorem dL_moves_158 : decode cL_moves 158 = .ok (.iaload, 1) := by decide +kernel
theorem dL_moves_159 : decode cL_moves 159 = .ok (.if_icmp .eq 5, 3) := by decide +kernel
theorem dL_moves_162 : decode cL_moves 162 = .ok (.iconst 0, 1) := by decide +kernel
theorem dL_moves_163 : decode cL_moves 163 = .ok (.ireturn, 1) := by decide +kernel
theorem dL_moves_164 : decode cL_moves 164 = .ok (.iinc 7 1, 3) := by decide +kernel
theorem dL_moves_167 : decode cL_moves 167 = .ok (.goto (-25), 3) := by decide +kernel
theorem dL_moves_170 : decode cL_moves 170 = .ok (.aload_n 0, 1) := by decide +kernel
theorem dL_moves_171 : decode cL_moves 171 = .ok (.bipush 7, 2) := by decide +kernel
theorem dL_moves_173 : decode cL_moves 173 = .ok (.invokevirtual 48, 3) := by decide +kernel
theorem dL_moves_176 : decode cL_moves 176 = .ok (.iload 6, 2) := by decide +kernel
theorem dL_moves_178 : decode cL_moves 178 = .ok (.if_icmp .ne 21, 3) := by decide +kernel
theorem dL_moves_181 : decode cL_moves 181 = .ok (.iload 5, 2) := by decide +kernel
theorem dL_moves_183 : decode cL_moves 183 = .ok (.iconst 3, 1) := by decide +kernel
theorem dL_moves_184 : decode cL_moves 184 = .ok (.iconst 3, 1) := by decide +kernel
theorem dL_moves_185 : decode cL_moves 185 = .ok (.iload 6, 2) := by decide +kernel
theorem dL_moves_187 : decode cL_moves 187 = .ok (.imul, 1) := by decide +kernel
theorem dL_moves_188 : decode cL_moves 188 = .ok (.iadd, 1) := by decide +kernel
theorem dL_moves_189 : decode cL_moves 189 = .ok (.if_icmp .ne 10, 3) := by decide +kernel
theorem dL_moves_192 : decode cL_moves 192 = .ok (.aload_n 0, 1) := by decide +kernel
theorem dL_moves_193 : decode cL_moves 193 = .ok (.invokestatic 62, 3) := by decide +kernel
theorem dL_moves_196 : decode cL_moves 196 = .ok (.ifCond .ne 5, 3) := by decide +kernel
theorem dL_moves_199 : decode cL_moves 199 = .ok (.iconst 0, 1) := by decide +kernel
theorem dL_moves_200 : decode cL_moves 200 = .ok (.ireturn, 1) := by decide +kernel
theorem dL_moves_201 : decode cL_moves 201 = .ok (.aload_n 0, 1) := by decide +kernel
theorem dL_moves_202 : decode cL_moves 202 = .ok (.iconst 0, 1) := by decide +kernel
theorem dL_moves_203 : decode cL_moves 203 = .ok (.invokevirtual 129, 3) := by decide +kernel
theorem dL_moves_206 : decode cL_moves 206 = .ok (.pop, 1) := by decide +kernel
theorem dL_moves_207 : decode cL_moves 207 = .ok (.aload_n 0, 1) := by decide +kernel
theorem dL_moves_208 : decode cL_moves 208 = .ok (.iload_n 1, 1) := by decide +kernel
theorem dL_moves_209 : decode cL_moves 209 = .ok (.iload 5, 2) := by decide +kernel
theorem dL_moves_211 : decode cL_moves 211 = .ok (.invokestatic 30, 3) := by decide +kernel
theorem dL_moves_214 : decode cL_moves 214 = .ok (.invokevirtual 116, 3) := by decide +kernel
theorem dL_moves_217 : decode cL_moves 217 = .ok (.pop, 1) := by decide +kernel
theorem dL_moves_218 : decode cL_moves 218 = .ok (.aload_n 0, 1) := by decide +kernel
theorem dL_moves_219 : decode cL_moves 219 = .ok (.iload_n 3, 1) := by decide +kernel
theorem dL_moves_220 : decode cL_moves 220 = .ok (.invokevirtual 91, 3) := by decide +kernel
theorem dL_moves_223 : decode cL_moves 223 = .ok (.iload_n 1, 1) := by decide +kernel
theorem dL_moves_224 : decode cL_moves 224 = .ok (.iload 5, 2) := by decide +kernel
theorem dL_moves_226 : decode cL_moves 226 = .ok (.invokestatic 30, 3) := by decide +kernel
theorem dL_moves_229 : decode cL_moves 229 = .ok (.if_icmp .ne 20, 3) := by decide +kernel
theorem dL_moves_232 : decode cL_moves 232 = .ok (.aload_n 0, 1) := by decide +kernel
theorem dL_moves_233 : decode cL_moves 233 = .ok (.iconst 0, 1) := by decide +kernel
theorem dL_moves_234 : decode cL_moves 234 = .ok (.invokevirtual 48, 3) := by decide +kernel
theorem dL_moves_237 : decode cL_moves 237 = .ok (.ifCond .ne 12, 3) := by decide +kernel
theorem dL_moves_240 : decode cL_moves 240 = .ok (.aload_n 0, 1) := by decide +kernel
theorem dL_moves_241 : decode cL_moves 241 = .ok (.iconst 2, 1) := by decide +kernel
theorem dL_moves_242 : decode cL_moves 242 = .ok (.invokevirtual 48, 3) := by decide +kernel
theorem dL_moves_245 : decode cL_moves 245 = .ok (.iload_n 2, 1) := by decide +kernel
theorem dL_moves_246 : decode cL_moves 246 = .ok (.if_icmp .eq 5, 3) := by decide +kernel
theorem dL_moves_249 : decode cL_moves 249 = .ok (.iconst 0, 1) := by decide +kernel
theorem dL_moves_250 : decode cL_moves 250 = .ok (.ireturn, 1) := by decide +kernel
theorem dL_moves_251 : decode cL_moves 251 = .ok (.aload_n 0, 1) := by decide +kernel
theorem dL_moves_252 : decode cL_moves 252 = .ok (.invokevirtual 103, 3) := by decide +kernel
theorem dL_moves_255 : decode cL_moves 255 = .ok (.pop, 1) := by decide +kernel
theorem dL_moves_256 : decode cL_moves 256 = .ok (.aload_n 0, 1) := by decide +kernel
theorem dL_moves_257 : decode cL_moves 257 = .ok (.iconst 2, 1) := by decide +kernel
theorem dL_moves_258 : decode cL_moves 258 = .ok (.invokevirtual 48, 3) := by decide +kernel
theorem dL_moves_261 : decode cL_moves 261 = .ok (.iload_n 2, 1) := by decide +kernel
theorem dL_moves_262 : decode cL_moves 262 = .ok (.if_icmp .eq 5, 3) := by decide +kernel
theorem dL_moves_265 : decode cL_moves 265 = .ok (.iconst 0, 1) := by decide +kernel
theorem dL_moves_266 : decode cL_moves 266 = .ok (.ireturn, 1) := by decide +kernel
theorem dL_moves_267 : decode cL_moves 267 = .ok (.aload_n 0, 1) := by decide +kernel
theorem dL_moves_268 : decode cL_moves 268 = .ok (.iconst 0, 1) := by decide +kernel
theorem dL_moves_269 : decode cL_moves 269 = .ok (.invokevirtual 129, 3) := by decide +kernel
theorem dL_moves_272 : decode cL_moves 272 = .ok (.pop, 1) := by decide +kernel
theorem dL_moves_273 : decode cL_moves 273 = .ok (.iload_n 1, 1) := by decide +kernel
theorem dL_moves_274 : decode cL_moves 274 = .ok (.iconst 5, 1) := by decide +kernel
theorem dL_moves_275 : decode cL_moves 275 = .ok (.ishr, 1) := by decide +kernel
theorem dL_moves_276 : decode cL_moves 276 = .ok (.iload_n 3, 1) := by decide +kernel
theorem dL_moves_277 : decode cL_moves 277 = .ok (.iconst 1, 1) := by decide +kernel
theorem dL_moves_278 : decode cL_moves 278 = .ok (.iadd, 1) := by decide +kernel
theorem dL_moves_279 : decode cL_moves 279 = .ok (.invokestatic 30, 3) := by decide +kernel
theorem dL_moves_282 : decode cL_moves 282 = .ok (.istore 4, 2) := by decide +kernel
theorem dL_moves_284 : decode cL_moves 284 = .ok (.aload_n 0, 1) := by decide +kernel
theorem dL_moves_285 : decode cL_moves 285 = .ok (.iload 4, 2) := by decide +kernel
theorem dL_moves_287 : decode cL_moves 287 = .ok (.invokevirtual 44, 3) := by decide +kernel
theorem dL_moves_290 : decode cL_moves 290 = .ok (.iconst 3, 1) := by decide +kernel
theorem dL_moves_291 : decode cL_moves 291 = .ok (.if_icmp .ne 95, 3) := by decide +kernel
theorem dL_moves_294 : decode cL_moves 294 = .ok (.aload_n 0, 1) := by decide +kernel
theorem dL_moves_295 : decode cL_moves 295 = .ok (.iconst 2, 1) := by decide +kernel
theorem dL_moves_296 : decode cL_moves 296 = .ok (.invokevirtual 48, 3) := by decide +kernel
theorem dL_moves_299 : decode cL_moves 299 = .ok (.iload 4, 2) := by decide +kernel
theorem dL_moves_301 : decode cL_moves 301 = .ok (.if_icmp .ne 85, 3) := by decide +kernel
theorem dL_moves_304 : decode cL_moves 304 = .ok (.aload_n 0, 1) := by decide +kernel
theorem dL_moves_305 : decode cL_moves 305 = .ok (.bipush 7, 2) := by decide +kernel
theorem dL_moves_307 : decode cL_moves 307 = .ok (.invokevirtual 48, 3) := by decide +kernel
theorem dL_moves_310 : decode cL_moves 310 = .ok (.ifCond .ne 76, 3) := by decide +kernel
theorem dL_moves_313 : decode cL_moves 313 = .ok (.aload_n 0, 1) := by decide +kernel
theorem dL_moves_314 : decode cL_moves 314 = .ok (.iconst 3, 1) := by decide +kernel
theorem dL_moves_315 : decode cL_moves 315 = .ok (.invokevirtual 48, 3) := by decide +kernel
theorem dL_moves_318 : decode cL_moves 318 = .ok (.ifCond .ne 68, 3) := by decide +kernel
theorem dL_moves_321 : decode cL_moves 321 = .ok (.aload_n 0, 1) := by decide +kernel
theorem dL_moves_322 : decode cL_moves 322 = .ok (.iconst 1, 1) := by decide +kernel
theorem dL_moves_323 : decode cL_moves 323 = .ok (.invokevirtual 48, 3) := by decide +kernel
theorem dL_moves_326 : decode cL_moves 326 = .ok (.ifCond .ne 60, 3) := by decide +kernel
theorem dL_moves_329 : decode cL_moves 329 = .ok (.aload_n 0, 1) := by decide +kernel
theorem dL_moves_330 : decode cL_moves 330 = .ok (.iconst 4, 1) := by decide +kernel
theorem dL_moves_331 : decode cL_moves 331 = .ok (.invokevirtual 48, 3) := by decide +kernel
theorem dL_moves_334 : decode cL_moves 334 = .ok (.bipush 15, 2) := by decide +kernel
theorem dL_moves_336 : decode cL_moves 336 = .ok (.if_icmp .ne 50, 3) := by decide +kernel
theorem dL_moves_339 : decode cL_moves 339 = .ok (.aload_n 0, 1) := by decide +kernel
theorem dL_moves_340 : decode cL_moves 340 = .ok (.iconst 1, 1) := by decide +kernel
theorem dL_moves_341 : decode cL_moves 341 = .ok (.iconst 5, 1) := by decide +kernel
theorem dL_moves_342 : decode cL_moves 342 = .ok (.invokevirtual 88, 3) := by decide +kernel
theorem dL_moves_345 : decode cL_moves 345 = .ok (.ifCond .ne 41, 3) := by decide +kernel
theorem dL_moves_348 : decode cL_moves 348 = .ok (.aload_n 0, 1) := by decide +kernel
theorem dL_moves_349 : decode cL_moves 349 = .ok (.iconst 0, 1) := by decide +kernel
theorem dL_moves_350 : decode cL_moves 350 = .ok (.iconst 5, 1) := by decide +kernel
theorem dL_moves_351 : decode cL_moves 351 = .ok (.invokevirtual 88, 3) := by decide +kernel
theorem dL_moves_354 : decode cL_moves 354 = .ok (.iconst 3, 1) := by decide +kernel
theorem dL_moves_355 : decode cL_moves 355 = .ok (.if_icmp .ne 31, 3) := by decide +kernel
theorem dL_moves_358 : decode cL_moves 358 = .ok (.aload_n 0, 1) := by decide +kernel
theorem dL_moves_359 : decode cL_moves 359 = .ok (.invokestatic 62, 3) := by decide +kernel
theorem dL_moves_362 : decode cL_moves 362 = .ok (.ifCond .eq 24, 3) := by decide +kernel
theorem dL_moves_365 : decode cL_moves 365 = .ok (.aload_n 0, 1) := by decide +kernel
theorem dL_moves_366 : decode cL_moves 366 = .ok (.iconst 0, 1) := by decide +kernel
theorem dL_moves_367 : decode cL_moves 367 = .ok (.invokevirtual 129, 3) := by decide +kernel
theorem dL_moves_370 : decode cL_moves 370 = .ok (.ifCond .lt 16, 3) := by decide +kernel
theorem dL_moves_373 : decode cL_moves 373 = .ok (.aload_n 0, 1) := by decide +kernel
theorem dL_moves_374 : decode cL_moves 374 = .ok (.iconst 2, 1) := by decide +kernel
theorem dL_moves_375 : decode cL_moves 375 = .ok (.invokevirtual 48, 3) := by decide +kernel
theorem dL_moves_378 : decode cL_moves 378 = .ok (.iload_n 2, 1) := by decide +kernel
theorem dL_moves_379 : decode cL_moves 379 = .ok (.if_icmp .ne 7, 3) := by decide +kernel
theorem dL_moves_382 : decode cL_moves 382 = .ok (.iconst 1, 1) := by decide +kernel
theorem dL_moves_383 : decode cL_moves 383 = .ok (.goto 4, 3) := by decide +kernel
theorem dL_moves_386 : decode cL_moves 386 = .ok (.iconst 0, 1) := by decide +kernel
theorem dL_moves_387 : decode cL_moves 387 = .ok (.ireturn, 1) := by decide +kernel
theorem dL_kept_0 : decode cL_kept 0 = .ok (.aload_n 0, 1) := by decide +kernel
theorem dL_kept_1 : decode cL_kept 1 = .ok (.invokestatic 119, 3) := by decide +kernel
theorem dL_kept_4 : decode cL_kept 4 = .ok (.istore_n 2, 1) := by decide +kernel
theorem dL_kept_5 : decode cL_kept 5 = .ok (.aload_n 0, 1) := by decide +kernel
theorem dL_kept_6 : decode cL_kept 6 = .ok (.bipush 10, 2) := by decide +kernel
theorem dL_kept_8 : decode cL_kept 8 = .ok (.invokevirtual 48, 3) := by decide +kernel
theorem dL_kept_11 : decode cL_kept 11 = .ok (.istore_n 3, 1) := by decide +kernel
theorem dL_kept_12 : decode cL_kept 12 = .ok (.aload_n 0, 1) := by decide +kernel
theorem dL_kept_13 : decode cL_kept 13 = .ok (.bipush 11, 2) := by decide +kernel
theorem dL_kept_15 : decode cL_kept 15 = .ok (.invokevirtual 48, 3) := by decide +kernel
theorem dL_kept_18 : decode cL_kept 18 = .ok (.istore 4, 2) := by decide +kernel
theorem dL_kept_20 : decode cL_kept 20 = .ok (.aload_n 0, 1) := by decide +kernel
theorem dL_kept_21 : decode cL_kept 21 = .ok (.iconst 1, 1) := by decide +kernel
theorem dL_kept_22 : decode cL_kept 22 = .ok (.invokevirtual 123, 3) := by decide +kernel
theorem dL_kept_25 : decode cL_kept 25 = .ok (.istore 5, 2) := by decide +kernel
theorem dL_kept_27 : decode cL_kept 27 = .ok (.aload_n 0, 1) := by decide +kernel
theorem dL_kept_28 : decode cL_kept 28 = .ok (.iconst 1, 1) := by decide +kernel
theorem dL_kept_29 : decode cL_kept 29 = .ok (.invokevirtual 97, 3) := by decide +kernel
theorem dL_kept_32 : decode cL_kept 32 = .ok (.istore 6, 2) := by decide +kernel
theorem dL_kept_34 : decode cL_kept 34 = .ok (.aload_n 0, 1) := by decide +kernel
theorem dL_kept_35 : decode cL_kept 35 = .ok (.bipush 8, 2) := by decide +kernel
theorem dL_kept_37 : decode cL_kept 37 = .ok (.invokevirtual 48, 3) := by decide +kernel
theorem dL_kept_40 : decode cL_kept 40 = .ok (.istore 7, 2) := by decide +kernel
theorem dL_kept_42 : decode cL_kept 42 = .ok (.aload_n 0, 1) := by decide +kernel
theorem dL_kept_43 : decode cL_kept 43 = .ok (.iconst 1, 1) := by decide +kernel
theorem dL_kept_44 : decode cL_kept 44 = .ok (.iload_n 1, 1) := by decide +kernel
theorem dL_kept_45 : decode cL_kept 45 = .ok (.aload_n 0, 1) := by decide +kernel
theorem dL_kept_46 : decode cL_kept 46 = .ok (.aload_n 0, 1) := by decide +kernel
theorem dL_kept_47 : decode cL_kept 47 = .ok (.iconst 2, 1) := by decide +kernel
theorem dL_kept_48 : decode cL_kept 48 = .ok (.invokevirtual 48, 3) := by decide +kernel
theorem dL_kept_51 : decode cL_kept 51 = .ok (.iconst 1, 1) := by decide +kernel
theorem dL_kept_52 : decode cL_kept 52 = .ok (.iconst 0, 1) := by decide +kernel
theorem dL_kept_53 : decode cL_kept 53 = .ok (.invokevirtual 79, 3) := by decide +kernel
theorem dL_kept_56 : decode cL_kept 56 = .ok (.iconst 1, 1) := by decide +kernel
theorem dL_kept_57 : decode cL_kept 57 = .ok (.iadd, 1) := by decide +kernel
theorem dL_kept_58 : decode cL_kept 58 = .ok (.invokestatic 30, 3) := by decide +kernel
theorem dL_kept_61 : decode cL_kept 61 = .ok (.invokevirtual 106, 3) := by decide +kernel
theorem dL_kept_64 : decode cL_kept 64 = .ok (.pop, 1) := by decide +kernel
theorem dL_kept_65 : decode cL_kept 65 = .ok (.aload_n 0, 1) := by decide +kernel
theorem dL_kept_66 : decode cL_kept 66 = .ok (.invokevirtual 85, 3) := by decide +kernel
theorem dL_kept_69 : decode cL_kept 69 = .ok (.pop, 1) := by decide +kernel
theorem dL_kept_70 : decode cL_kept 70 = .ok (.aload_n 0, 1) := by decide +kernel
theorem dL_kept_71 : decode cL_kept 71 = .ok (.iconst 0, 1) := by decide +kernel
theorem dL_kept_72 : decode cL_kept 72 = .ok (.iconst 0, 1) := by decide +kernel
theorem dL_kept_73 : decode cL_kept 73 = .ok (.bipush 7, 2) := by decide +kernel
theorem dL_kept_75 : decode cL_kept 75 = .ok (.invokevirtual 126, 3) := by decide +kernel
theorem dL_kept_78 : decode cL_kept 78 = .ok (.pop, 1) := by decide +kernel
theorem dL_kept_79 : decode cL_kept 79 = .ok (.aload_n 0, 1) := by decide +kernel
theorem dL_kept_80 : decode cL_kept 80 = .ok (.invokevirtual 103, 3) := by decide +kernel
theorem dL_kept_83 : decode cL_kept 83 = .ok (.pop, 1) := by decide +kernel
theorem dL_kept_84 : decode cL_kept 84 = .ok (.aload_n 0, 1) := by decide +kernel
theorem dL_kept_85 : decode cL_kept 85 = .ok (.iconst 0, 1) := by decide +kernel
theorem dL_kept_86 : decode cL_kept 86 = .ok (.invokevirtual 44, 3) := by decide +kernel
theorem dL_kept_89 : decode cL_kept 89 = .ok (.pop, 1) := by decide +kernel
theorem dL_kept_90 : decode cL_kept 90 = .ok (.aload_n 0, 1) := by decide +kernel
theorem dL_kept_91 : decode cL_kept 91 = .ok (.ldc2_w 132, 3) := by decide +kernel
theorem dL_kept_94 : decode cL_kept 94 = .ok (.invokevirtual 24, 3) := by decide +kernel
theorem dL_kept_97 : decode cL_kept 97 = .ok (.pop, 1) := by decide +kernel
theorem dL_kept_98 : decode cL_kept 98 = .ok (.aload_n 0, 1) := by decide +kernel
theorem dL_kept_99 : decode cL_kept 99 = .ok (.ldc2_w 134, 3) := by decide +kernel
theorem dL_kept_102 : decode cL_kept 102 = .ok (.invokevirtual 24, 3) := by decide +kernel
theorem dL_kept_105 : decode cL_kept 105 = .ok (.pop, 1) := by decide +kernel
theorem dL_kept_106 : decode cL_kept 106 = .ok (.aload_n 0, 1) := by decide +kernel
theorem dL_kept_107 : decode cL_kept 107 = .ok (.invokevirtual 40, 3) := by decide +kernel
theorem dL_kept_110 : decode cL_kept 110 = .ok (.istore 8, 2) := by decide +kernel
theorem dL_kept_112 : decode cL_kept 112 = .ok (.aload_n 0, 1) := by decide +kernel
theorem dL_kept_113 : decode cL_kept 113 = .ok (.invokevirtual 136, 3) := by decide +kernel
theorem dL_kept_116 : decode cL_kept 116 = .ok (.pop, 1) := by decide +kernel
theorem dL_kept_117 : decode cL_kept 117 = .ok (.aload_n 0, 1) := by decide +kernel
theorem dL_kept_118 : decode cL_kept 118 = .ok (.iconst 1, 1) := by decide +kernel
theorem dL_kept_119 : decode cL_kept 119 = .ok (.invokevirtual 129, 3) := by decide +kernel
theorem dL_kept_122 : decode cL_kept 122 = .ok (.iload 5, 2) := by decide +kernel
theorem dL_kept_124 : decode cL_kept 124 = .ok (.if_icmp .ne 68, 3) := by decide +kernel
theorem dL_kept_127 : decode cL_kept 127 = .ok (.aload_n 0, 1) := by decide +kernel
theorem dL_kept_128 : decode cL_kept 128 = .ok (.invokestatic 119, 3) := by decide +kernel
theorem dL_kept_131 : decode cL_kept 131 = .ok (.iload_n 2, 1) := by decide +kernel
theorem dL_kept_132 : decode cL_kept 132 = .ok (.if_icmp .ne 60, 3) := by decide +kernel
theorem dL_kept_135 : decode cL_kept 135 = .ok (.aload_n 0, 1) := by decide +kernel
theorem dL_kept_136 : decode cL_kept 136 = .ok (.bipush 10, 2) := by decide +kernel
theorem dL_kept_138 : decode cL_kept 138 = .ok (.invokevirtual 48, 3) := by decide +kernel
theorem dL_kept_141 : decode cL_kept 141 = .ok (.iload_n 3, 1) := by decide +kernel
theorem dL_kept_142 : decode cL_kept 142 = .ok (.if_icmp .ne 50, 3) := by decide +kernel
theorem dL_kept_145 : decode cL_kept 145 = .ok (.aload_n 0, 1) := by decide +kernel
theorem dL_kept_146 : decode cL_kept 146 = .ok (.bipush 11, 2) := by decide +kernel
theorem dL_kept_148 : decode cL_kept 148 = .ok (.invokevirtual 48, 3) := by decide +kernel
theorem dL_kept_151 : decode cL_kept 151 = .ok (.iload 4, 2) := by decide +kernel
theorem dL_kept_153 : decode cL_kept 153 = .ok (.if_icmp .ne 39, 3) := by decide +kernel
theorem dL_kept_156 : decode cL_kept 156 = .ok (.aload_n 0, 1) := by decide +kernel
theorem dL_kept_157 : decode cL_kept 157 = .ok (.iconst 1, 1) := by decide +kernel
theorem dL_kept_158 : decode cL_kept 158 = .ok (.invokevirtual 97, 3) := by decide +kernel
theorem dL_kept_161 : decode cL_kept 161 = .ok (.iload 6, 2) := by decide +kernel
theorem dL_kept_163 : decode cL_kept 163 = .ok (.if_icmp .ne 29, 3) := by decide +kernel
theorem dL_kept_166 : decode cL_kept 166 = .ok (.aload_n 0, 1) := by decide +kernel
theorem dL_kept_167 : decode cL_kept 167 = .ok (.bipush 8, 2) := by decide +kernel
theorem dL_kept_169 : decode cL_kept 169 = .ok (.invokevirtual 48, 3) := by decide +kernel
theorem dL_kept_172 : decode cL_kept 172 = .ok (.iload 7, 2) := by decide +kernel
theorem dL_kept_174 : decode cL_kept 174 = .ok (.iload 8, 2) := by decide +kernel
theorem dL_kept_176 : decode cL_kept 176 = .ok (.ifCond .lt 7, 3) := by decide +kernel
theorem dL_kept_179 : decode cL_kept 179 = .ok (.iconst 1, 1) := by decide +kernel
theorem dL_kept_180 : decode cL_kept 180 = .ok (.goto 4, 3) := by decide +kernel
theorem dL_kept_183 : decode cL_kept 183 = .ok (.iconst 0, 1) := by decide +kernel
theorem dL_kept_184 : decode cL_kept 184 = .ok (.iadd, 1) := by decide +kernel
theorem dL_kept_185 : decode cL_kept 185 = .ok (.if_icmp .ne 7, 3) := by decide +kernel
theorem dL_kept_188 : decode cL_kept 188 = .ok (.iconst 1, 1) := by decide +kernel
theorem dL_kept_189 : decode cL_kept 189 = .ok (.goto 4, 3) := by decide +kernel
theorem dL_kept_192 : decode cL_kept 192 = .ok (.iconst 0, 1) := by decide +kernel
theorem dL_kept_193 : decode cL_kept 193 = .ok (.ireturn, 1) := by decide +kernel
theorem dL_refused_0 : decode cL_refused 0 = .ok (.iload_n 1, 1) := by decide +kernel
theorem dL_refused_1 : decode cL_refused 1 = .ok (.ifCond .ge 15, 3) := by decide +kernel
theorem dL_refused_4 : decode cL_refused 4 = .ok (.bipush (-7), 2) := by decide +kernel
theorem dL_refused_6 : decode cL_refused 6 = .ok (.iload_n 1, 1) := by decide +kernel
theorem dL_refused_7 : decode cL_refused 7 = .ok (.ldc 139, 2) := by decide +kernel
theorem dL_refused_9 : decode cL_refused 9 = .ok (.invokestatic 30, 3) := by decide +kernel
theorem dL_refused_12 : decode cL_refused 12 = .ok (.isub, 1) := by decide +kernel
theorem dL_refused_13 : decode cL_refused 13 = .ok (.goto 11, 3) := by decide +kernel
theorem dL_refused_16 : decode cL_refused 16 = .ok (.iload_n 1, 1) := by decide +kernel
theorem dL_refused_17 : decode cL_refused 17 = .ok (.ldc 139, 2) := by decide +kernel
theorem dL_refused_19 : decode cL_refused 19 = .ok (.irem, 1) := by decide +kernel
theorem dL_refused_20 : decode cL_refused 20 = .ok (.sipush 256, 3) := by decide +kernel
theorem dL_refused_23 : decode cL_refused 23 = .ok (.iadd, 1) := by decide +kernel
theorem dL_refused_24 : decode cL_refused 24 = .ok (.istore_n 2, 1) := by decide +kernel
theorem dL_refused_25 : decode cL_refused 25 = .ok (.aload_n 0, 1) := by decide +kernel
theorem dL_refused_26 : decode cL_refused 26 = .ok (.invokevirtual 40, 3) := by decide +kernel
theorem dL_refused_29 : decode cL_refused 29 = .ok (.bipush (-3), 2) := by decide +kernel
theorem dL_refused_31 : decode cL_refused 31 = .ok (.if_icmp .ne 219, 3) := by decide +kernel
theorem dL_refused_34 : decode cL_refused 34 = .ok (.aload_n 0, 1) := by decide +kernel
theorem dL_refused_35 : decode cL_refused 35 = .ok (.iload_n 2, 1) := by decide +kernel
theorem dL_refused_36 : decode cL_refused 36 = .ok (.iconst 0, 1) := by decide +kernel
theorem dL_refused_37 : decode cL_refused 37 = .ok (.iconst 0, 1) := by decide +kernel
theorem dL_refused_38 : decode cL_refused 38 = .ok (.invokevirtual 79, 3) := by decide +kernel
theorem dL_refused_41 : decode cL_refused 41 = .ok (.iconst (-1), 1) := by decide +kernel
theorem dL_refused_42 : decode cL_refused 42 = .ok (.if_icmp .ne 208, 3) := by decide +kernel
theorem dL_refused_45 : decode cL_refused 45 = .ok (.aload_n 0, 1) := by decide +kernel
theorem dL_refused_46 : decode cL_refused 46 = .ok (.iload_n 2, 1) := by decide +kernel
theorem dL_refused_47 : decode cL_refused 47 = .ok (.invokevirtual 116, 3) := by decide +kernel
theorem dL_refused_50 : decode cL_refused 50 = .ok (.bipush (-2), 2) := by decide +kernel
theorem dL_refused_52 : decode cL_refused 52 = .ok (.if_icmp .ne 198, 3) := by decide +kernel
theorem dL_refused_55 : decode cL_refused 55 = .ok (.aload_n 0, 1) := by decide +kernel
theorem dL_refused_56 : decode cL_refused 56 = .ok (.iload_n 2, 1) := by decide +kernel
theorem dL_refused_57 : decode cL_refused 57 = .ok (.invokevirtual 97, 3) := by decide +kernel
theorem dL_refused_60 : decode cL_refused 60 = .ok (.iconst (-1), 1) := by decide +kernel
theorem dL_refused_61 : decode cL_refused 61 = .ok (.if_icmp .ne 189, 3) := by decide +kernel
theorem dL_refused_64 : decode cL_refused 64 = .ok (.aload_n 0, 1) := by decide +kernel
theorem dL_refused_65 : decode cL_refused 65 = .ok (.iload_n 2, 1) := by decide +kernel
theorem dL_refused_66 : decode cL_refused 66 = .ok (.iconst 0, 1) := by decide +kernel
theorem dL_refused_67 : decode cL_refused 67 = .ok (.invokevirtual 106, 3) := by decide +kernel
theorem dL_refused_70 : decode cL_refused 70 = .ok (.iconst (-1), 1) := by decide +kernel
theorem dL_refused_71 : decode cL_refused 71 = .ok (.if_icmp .ne 179, 3) := by decide +kernel
theorem dL_refused_74 : decode cL_refused 74 = .ok (.aload_n 0, 1) := by decide +kernel
theorem dL_refused_75 : decode cL_refused 75 = .ok (.invokevirtual 85, 3) := by decide +kernel
theorem dL_refused_78 : decode cL_refused 78 = .ok (.bipush (-5), 2) := by decide +kernel
theorem dL_refused_80 : decode cL_refused 80 = .ok (.if_icmp .ne 170, 3) := by decide +kernel
theorem dL_refused_83 : decode cL_refused 83 = .ok (.aload_n 0, 1) := by decide +kernel
theorem dL_refused_84 : decode cL_refused 84 = .ok (.iload_n 2, 1) := by decide +kernel
theorem dL_refused_85 : decode cL_refused 85 = .ok (.invokevirtual 91, 3) := by decide +kernel
theorem dL_refused_88 : decode cL_refused 88 = .ok (.bipush (-5), 2) := by decide +kernel
theorem dL_refused_90 : decode cL_refused 90 = .ok (.if_icmp .ne 160, 3) := by decide +kernel
theorem dL_refused_93 : decode cL_refused 93 = .ok (.aload_n 0, 1) := by decide +kernel
theorem dL_refused_94 : decode cL_refused 94 = .ok (.iload_n 2, 1) := by decide +kernel
theorem dL_refused_95 : decode cL_refused 95 = .ok (.invokevirtual 44, 3) := by decide +kernel
theorem dL_refused_98 : decode cL_refused 98 = .ok (.iconst (-1), 1) := by decide +kernel
theorem dL_refused_99 : decode cL_refused 99 = .ok (.if_icmp .ne 151, 3) := by decide +kernel
theorem dL_refused_102 : decode cL_refused 102 = .ok (.aload_n 0, 1) := by decide +kernel
theorem dL_refused_103 : decode cL_refused 103 = .ok (.iload_n 2, 1) := by decide +kernel
theorem dL_refused_104 : decode cL_refused 104 = .ok (.iconst 0, 1) := by decide +kernel
theorem dL_refused_105 : decode cL_refused 105 = .ok (.invokevirtual 83, 3) := by decide +kernel
theorem dL_refused_108 : decode cL_refused 108 = .ok (.iconst (-1), 1) := by decide +kernel
theorem dL_refused_109 : decode cL_refused 109 = .ok (.if_icmp .ne 141, 3) := by decide +kernel
theorem dL_refused_112 : decode cL_refused 112 = .ok (.aload_n 0, 1) := by decide +kernel
theorem dL_refused_113 : decode cL_refused 113 = .ok (.iconst 0, 1) := by decide +kernel
theorem dL_refused_114 : decode cL_refused 114 = .ok (.iload_n 2, 1) := by decide +kernel
theorem dL_refused_115 : decode cL_refused 115 = .ok (.invokevirtual 83, 3) := by decide +kernel
theorem dL_refused_118 : decode cL_refused 118 = .ok (.iconst (-1), 1) := by decide +kernel
theorem dL_refused_119 : decode cL_refused 119 = .ok (.if_icmp .ne 131, 3) := by decide +kernel
theorem dL_refused_122 : decode cL_refused 122 = .ok (.aload_n 0, 1) := by decide +kernel
theorem dL_refused_123 : decode cL_refused 123 = .ok (.iload_n 2, 1) := by decide +kernel
theorem dL_refused_124 : decode cL_refused 124 = .ok (.iconst 0, 1) := by decide +kernel
theorem dL_refused_125 : decode cL_refused 125 = .ok (.iconst 0, 1) := by decide +kernel
theorem dL_refused_126 : decode cL_refused 126 = .ok (.invokevirtual 126, 3) := by decide +kernel
theorem dL_refused_129 : decode cL_refused 129 = .ok (.iconst (-1), 1) := by decide +kernel
theorem dL_refused_130 : decode cL_refused 130 = .ok (.if_icmp .ne 120, 3) := by decide +kernel
theorem dL_refused_133 : decode cL_refused 133 = .ok (.aload_n 0, 1) := by decide +kernel
theorem dL_refused_134 : decode cL_refused 134 = .ok (.iconst 0, 1) := by decide +kernel
theorem dL_refused_135 : decode cL_refused 135 = .ok (.iconst 0, 1) := by decide +kernel
theorem dL_refused_136 : decode cL_refused 136 = .ok (.iload_n 2, 1) := by decide +kernel
theorem dL_refused_137 : decode cL_refused 137 = .ok (.invokevirtual 126, 3) := by decide +kernel
theorem dL_refused_140 : decode cL_refused 140 = .ok (.bipush (-2), 2) := by decide +kernel
theorem dL_refused_142 : decode cL_refused 142 = .ok (.if_icmp .ne 108, 3) := by decide +kernel
theorem dL_refused_145 : decode cL_refused 145 = .ok (.aload_n 0, 1) := by decide +kernel
theorem dL_refused_146 : decode cL_refused 146 = .ok (.iload_n 2, 1) := by decide +kernel
theorem dL_refused_147 : decode cL_refused 147 = .ok (.iconst 0, 1) := by decide +kernel
theorem dL_refused_148 : decode cL_refused 148 = .ok (.invokevirtual 88, 3) := by decide +kernel
theorem dL_refused_151 : decode cL_refused 151 = .ok (.iconst (-1), 1) := by decide +kernel
theorem dL_refused_152 : decode cL_refused 152 = .ok (.if_icmp .ne 98, 3) := by decide +kernel
theorem dL_refused_155 : decode cL_refused 155 = .ok (.aload_n 0, 1) := by decide +kernel
theorem dL_refused_156 : decode cL_refused 156 = .ok (.iconst 0, 1) := by decide +kernel
theorem dL_refused_157 : decode cL_refused 157 = .ok (.iload_n 2, 1) := by decide +kernel
theorem dL_refused_158 : decode cL_refused 158 = .ok (.invokevirtual 88, 3) := by decide +kernel
theorem dL_refused_161 : decode cL_refused 161 = .ok (.bipush (-2), 2) := by decide +kernel
theorem dL_refused_163 : decode cL_refused 163 = .ok (.if_icmp .ne 87, 3) := by decide +kernel
theorem dL_refused_166 : decode cL_refused 166 = .ok (.aload_n 0, 1) := by decide +kernel
theorem dL_refused_167 : decode cL_refused 167 = .ok (.iload_n 2, 1) := by decide +kernel
theorem dL_refused_168 : decode cL_refused 168 = .ok (.invokevirtual 48, 3) := by decide +kernel
theorem dL_refused_171 : decode cL_refused 171 = .ok (.bipush (-2), 2) := by decide +kernel
theorem dL_refused_173 : decode cL_refused 173 = .ok (.if_icmp .ne 77, 3) := by decide +kernel
theorem dL_refused_176 : decode cL_refused 176 = .ok (.aload_n 0, 1) := by decide +kernel
theorem dL_refused_177 : decode cL_refused 177 = .ok (.iload_n 2, 1) := by decide +kernel
theorem dL_refused_178 : decode cL_refused 178 = .ok (.invokevirtual 109, 3) := by decide +kernel
theorem dL_refused_181 : decode cL_refused 181 = .ok (.iconst (-1), 1) := by decide +kernel
theorem dL_refused_182 : decode cL_refused 182 = .ok (.if_icmp .ne 68, 3) := by decide +kernel
theorem dL_refused_185 : decode cL_refused 185 = .ok (.aload_n 0, 1) := by decide +kernel
theorem dL_refused_186 : decode cL_refused 186 = .ok (.iload_n 2, 1) := by decide +kernel
theorem dL_refused_187 : decode cL_refused 187 = .ok (.iconst 0, 1) := by decide +kernel
theorem dL_refused_188 : decode cL_refused 188 = .ok (.invokevirtual 94, 3) := by decide +kernel
theorem dL_refused_191 : decode cL_refused 191 = .ok (.bipush (-5), 2) := by decide +kernel
theorem dL_refused_193 : decode cL_refused 193 = .ok (.if_icmp .ne 57, 3) := by decide +kernel
theorem dL_refused_196 : decode cL_refused 196 = .ok (.aload_n 0, 1) := by decide +kernel
theorem dL_refused_197 : decode cL_refused 197 = .ok (.iload_n 2, 1) := by decide +kernel
theorem dL_refused_198 : decode cL_refused 198 = .ok (.iconst 0, 1) := by decide +kernel
theorem dL_refused_199 : decode cL_refused 199 = .ok (.iconst 0, 1) := by decide +kernel
theorem dL_refused_200 : decode cL_refused 200 = .ok (.iconst 0, 1) := by decide +kernel
theorem dL_refused_201 : decode cL_refused 201 = .ok (.invokevirtual 112, 3) := by decide +kernel
theorem dL_refused_204 : decode cL_refused 204 = .ok (.iconst (-1), 1) := by decide +kernel
theorem dL_refused_205 : decode cL_refused 205 = .ok (.if_icmp .ne 45, 3) := by decide +kernel
theorem dL_refused_208 : decode cL_refused 208 = .ok (.aload_n 0, 1) := by decide +kernel
theorem dL_refused_209 : decode cL_refused 209 = .ok (.iload_n 2, 1) := by decide +kernel
theorem dL_refused_210 : decode cL_refused 210 = .ok (.invokevirtual 123, 3) := by decide +kernel
theorem dL_refused_213 : decode cL_refused 213 = .ok (.bipush (-2), 2) := by decide +kernel
theorem dL_refused_215 : decode cL_refused 215 = .ok (.if_icmp .ne 35, 3) := by decide +kernel
theorem dL_refused_218 : decode cL_refused 218 = .ok (.aload_n 0, 1) := by decide +kernel
theorem dL_refused_219 : decode cL_refused 219 = .ok (.iload_n 2, 1) := by decide +kernel
theorem dL_refused_220 : decode cL_refused 220 = .ok (.invokevirtual 129, 3) := by decide +kernel
theorem dL_refused_223 : decode cL_refused 223 = .ok (.bipush (-2), 2) := by decide +kernel
theorem dL_refused_225 : decode cL_refused 225 = .ok (.if_icmp .ne 25, 3) := by decide +kernel
theorem dL_refused_228 : decode cL_refused 228 = .ok (.aload_n 0, 1) := by decide +kernel
theorem dL_refused_229 : decode cL_refused 229 = .ok (.invokevirtual 103, 3) := by decide +kernel
theorem dL_refused_232 : decode cL_refused 232 = .ok (.bipush (-6), 2) := by decide +kernel
theorem dL_refused_234 : decode cL_refused 234 = .ok (.if_icmp .ne 16, 3) := by decide +kernel
theorem dL_refused_237 : decode cL_refused 237 = .ok (.aload_n 0, 1) := by decide +kernel
theorem dL_refused_238 : decode cL_refused 238 = .ok (.bipush 10, 2) := by decide +kernel
theorem dL_refused_240 : decode cL_refused 240 = .ok (.invokevirtual 48, 3) := by decide +kernel
theorem dL_refused_243 : decode cL_refused 243 = .ok (.ifCond .ne 7, 3) := by decide +kernel
theorem dL_refused_246 : decode cL_refused 246 = .ok (.iconst 1, 1) := by decide +kernel
theorem dL_refused_247 : decode cL_refused 247 = .ok (.goto 4, 3) := by decide +kernel
theorem dL_refused_250 : decode cL_refused 250 = .ok (.iconst 0, 1) := by decide +kernel
theorem dL_refused_251 : decode cL_refused 251 = .ok (.ireturn, 1) := by decide +kernel
theorem dL_law_0 : decode cL_law 0 = .ok (.new 9, 3) := by decide +kernel
theorem dL_law_3 : decode cL_law 3 = .ok (.dup, 1) := by decide +kernel
theorem dL_law_4 : decode cL_law 4 = .ok (.invokespecial 11, 3) := by decide +kernel
theorem dL_law_7 : decode cL_law 7 = .ok (.astore_n 1, 1) := by decide +kernel
theorem dL_law_8 : decode cL_law 8 = .ok (.iconst 0, 1) := by decide +kernel
theorem dL_law_9 : decode cL_law 9 = .ok (.istore_n 2, 1) := by decide +kernel
theorem dL_law_10 : decode cL_law 10 = .ok (.aload_n 1, 1) := by decide +kernel
theorem dL_law_11 : decode cL_law 11 = .ok (.aload_n 0, 1) := by decide +kernel
theorem dL_law_12 : decode cL_law 12 = .ok (.iload_n 2, 1) := by decide +kernel
theorem dL_law_13 : decode cL_law 13 = .ok (.iinc 2 1, 3) := by decide +kernel
theorem dL_law_16 : decode cL_law 16 = .ok (.invokestatic 12, 3) := by decide +kernel
theorem dL_law_19 : decode cL_law 19 = .ok (.invokestatic 18, 3) := by decide +kernel
theorem dL_law_22 : decode cL_law 22 = .ok (.ifCond .ne 5, 3) := by decide +kernel
theorem dL_law_25 : decode cL_law 25 = .ok (.iconst 0, 1) := by decide +kernel
theorem dL_law_26 : decode cL_law 26 = .ok (.ireturn, 1) := by decide +kernel
theorem dL_law_27 : decode cL_law 27 = .ok (.aload_n 0, 1) := by decide +kernel
theorem dL_law_28 : decode cL_law 28 = .ok (.iload_n 2, 1) := by decide +kernel
theorem dL_law_29 : decode cL_law 29 = .ok (.iinc 2 1, 3) := by decide +kernel
theorem dL_law_32 : decode cL_law 32 = .ok (.invokestatic 12, 3) := by decide +kernel
theorem dL_law_35 : decode cL_law 35 = .ok (.istore_n 3, 1) := by decide +kernel
theorem dL_law_36 : decode cL_law 36 = .ok (.iconst 0, 1) := by decide +kernel
theorem dL_law_37 : decode cL_law 37 = .ok (.istore 4, 2) := by decide +kernel
theorem dL_law_39 : decode cL_law 39 = .ok (.iload 4, 2) := by decide +kernel
theorem dL_law_41 : decode cL_law 41 = .ok (.iconst 3, 1) := by decide +kernel
theorem dL_law_42 : decode cL_law 42 = .ok (.if_icmp .ge 79, 3) := by decide +kernel
theorem dL_law_45 : decode cL_law 45 = .ok (.iload 4, 2) := by decide +kernel
theorem dL_law_47 : decode cL_law 47 = .ok (.ifCond .le 11, 3) := by decide +kernel
theorem dL_law_50 : decode cL_law 50 = .ok (.aload_n 1, 1) := by decide +kernel
theorem dL_law_51 : decode cL_law 51 = .ok (.ldc2_w 22, 3) := by decide +kernel
theorem dL_law_54 : decode cL_law 54 = .ok (.invokevirtual 24, 3) := by decide +kernel
theorem dL_law_57 : decode cL_law 57 = .ok (.pop, 1) := by decide +kernel
theorem dL_law_58 : decode cL_law 58 = .ok (.aload_n 1, 1) := by decide +kernel
theorem dL_law_59 : decode cL_law 59 = .ok (.ldc2_w 28, 3) := by decide +kernel
theorem dL_law_62 : decode cL_law 62 = .ok (.bipush 97, 2) := by decide +kernel
theorem dL_law_64 : decode cL_law 64 = .ok (.iload 4, 2) := by decide +kernel
theorem dL_law_66 : decode cL_law 66 = .ok (.iadd, 1) := by decide +kernel
theorem dL_law_67 : decode cL_law 67 = .ok (.i2l, 1) := by decide +kernel
theorem dL_law_68 : decode cL_law 68 = .ok (.lor, 1) := by decide +kernel
theorem dL_law_69 : decode cL_law 69 = .ok (.invokevirtual 24, 3) := by decide +kernel
theorem dL_law_72 : decode cL_law 72 = .ok (.pop, 1) := by decide +kernel
theorem dL_law_73 : decode cL_law 73 = .ok (.aload_n 1, 1) := by decide +kernel
theorem dL_law_74 : decode cL_law 74 = .ok (.bipush 9, 2) := by decide +kernel
theorem dL_law_76 : decode cL_law 76 = .ok (.iload_n 3, 1) := by decide +kernel
theorem dL_law_77 : decode cL_law 77 = .ok (.iconst 3, 1) := by decide +kernel
theorem dL_law_78 : decode cL_law 78 = .ok (.iload 4, 2) := by decide +kernel
theorem dL_law_80 : decode cL_law 80 = .ok (.imul, 1) := by decide +kernel
theorem dL_law_81 : decode cL_law 81 = .ok (.ishr, 1) := by decide +kernel
theorem dL_law_82 : decode cL_law 82 = .ok (.sipush 190, 3) := by decide +kernel
theorem dL_law_85 : decode cL_law 85 = .ok (.invokestatic 30, 3) := by decide +kernel
theorem dL_law_88 : decode cL_law 88 = .ok (.iadd, 1) := by decide +kernel
theorem dL_law_89 : decode cL_law 89 = .ok (.invokestatic 34, 3) := by decide +kernel
theorem dL_law_92 : decode cL_law 92 = .ok (.aload_n 1, 1) := by decide +kernel
theorem dL_law_93 : decode cL_law 93 = .ok (.ldc2_w 38, 3) := by decide +kernel
theorem dL_law_96 : decode cL_law 96 = .ok (.invokevirtual 24, 3) := by decide +kernel
theorem dL_law_99 : decode cL_law 99 = .ok (.pop, 1) := by decide +kernel
theorem dL_law_100 : decode cL_law 100 = .ok (.aload_n 1, 1) := by decide +kernel
theorem dL_law_101 : decode cL_law 101 = .ok (.iload_n 3, 1) := by decide +kernel
theorem dL_law_102 : decode cL_law 102 = .ok (.iconst 5, 1) := by decide +kernel
theorem dL_law_103 : decode cL_law 103 = .ok (.iload 4, 2) := by decide +kernel
theorem dL_law_105 : decode cL_law 105 = .ok (.imul, 1) := by decide +kernel
theorem dL_law_106 : decode cL_law 106 = .ok (.ishr, 1) := by decide +kernel
theorem dL_law_107 : decode cL_law 107 = .ok (.bipush 10, 2) := by decide +kernel
theorem dL_law_109 : decode cL_law 109 = .ok (.invokestatic 30, 3) := by decide +kernel
theorem dL_law_112 : decode cL_law 112 = .ok (.invokestatic 34, 3) := by decide +kernel
theorem dL_law_115 : decode cL_law 115 = .ok (.iinc 4 1, 3) := by decide +kernel
theorem dL_law_118 : decode cL_law 118 = .ok (.goto (-79), 3) := by decide +kernel
theorem dL_law_121 : decode cL_law 121 = .ok (.aload_n 1, 1) := by decide +kernel
theorem dL_law_122 : decode cL_law 122 = .ok (.invokevirtual 40, 3) := by decide +kernel
theorem dL_law_125 : decode cL_law 125 = .ok (.ifCond .ne 31, 3) := by decide +kernel
theorem dL_law_128 : decode cL_law 128 = .ok (.aload_n 1, 1) := by decide +kernel
theorem dL_law_129 : decode cL_law 129 = .ok (.iconst 0, 1) := by decide +kernel
theorem dL_law_130 : decode cL_law 130 = .ok (.invokevirtual 44, 3) := by decide +kernel
theorem dL_law_133 : decode cL_law 133 = .ok (.iconst 3, 1) := by decide +kernel
theorem dL_law_134 : decode cL_law 134 = .ok (.if_icmp .ne 22, 3) := by decide +kernel
theorem dL_law_137 : decode cL_law 137 = .ok (.aload_n 1, 1) := by decide +kernel
theorem dL_law_138 : decode cL_law 138 = .ok (.bipush 6, 2) := by decide +kernel
theorem dL_law_140 : decode cL_law 140 = .ok (.invokevirtual 48, 3) := by decide +kernel
theorem dL_law_143 : decode cL_law 143 = .ok (.iconst 3, 1) := by decide +kernel
theorem dL_law_144 : decode cL_law 144 = .ok (.if_icmp .ne 12, 3) := by decide +kernel
theorem dL_law_147 : decode cL_law 147 = .ok (.aload_n 1, 1) := by decide +kernel
theorem dL_law_148 : decode cL_law 148 = .ok (.bipush 7, 2) := by decide +kernel
theorem dL_law_150 : decode cL_law 150 = .ok (.invokevirtual 48, 3) := by decide +kernel
theorem dL_law_153 : decode cL_law 153 = .ok (.ifCond .eq 5, 3) := by decide +kernel
theorem dL_law_156 : decode cL_law 156 = .ok (.iconst 0, 1) := by decide +kernel
theorem dL_law_157 : decode cL_law 157 = .ok (.ireturn, 1) := by decide +kernel
theorem dL_law_158 : decode cL_law 158 = .ok (.aload_n 1, 1) := by decide +kernel
theorem dL_law_159 : decode cL_law 159 = .ok (.aload_n 0, 1) := by decide +kernel
theorem dL_law_160 : decode cL_law 160 = .ok (.iload_n 2, 1) := by decide +kernel
theorem dL_law_161 : decode cL_law 161 = .ok (.iinc 2 1, 3) := by decide +kernel
theorem dL_law_164 : decode cL_law 164 = .ok (.invokestatic 12, 3) := by decide +kernel
theorem dL_law_167 : decode cL_law 167 = .ok (.invokestatic 51, 3) := by decide +kernel
theorem dL_law_170 : decode cL_law 170 = .ok (.ifCond .eq 18, 3) := by decide +kernel
theorem dL_law_173 : decode cL_law 173 = .ok (.aload_n 1, 1) := by decide +kernel
theorem dL_law_174 : decode cL_law 174 = .ok (.aload_n 0, 1) := by decide +kernel
theorem dL_law_175 : decode cL_law 175 = .ok (.iload_n 2, 1) := by decide +kernel
theorem dL_law_176 : decode cL_law 176 = .ok (.iinc 2 1, 3) := by decide +kernel
theorem dL_law_179 : decode cL_law 179 = .ok (.invokestatic 12, 3) := by decide +kernel
theorem dL_law_182 : decode cL_law 182 = .ok (.invokestatic 51, 3) := by decide +kernel
theorem dL_law_185 : decode cL_law 185 = .ok (.ifCond .ne 5, 3) := by decide +kernel
theorem dL_law_188 : decode cL_law 188 = .ok (.iconst 0, 1) := by decide +kernel
theorem dL_law_189 : decode cL_law 189 = .ok (.ireturn, 1) := by decide +kernel
theorem dL_law_190 : decode cL_law 190 = .ok (.iconst 0, 1) := by decide +kernel
theorem dL_law_191 : decode cL_law 191 = .ok (.istore 4, 2) := by decide +kernel
theorem dL_law_193 : decode cL_law 193 = .ok (.iload 4, 2) := by decide +kernel
theorem dL_law_195 : decode cL_law 195 = .ok (.bipush 24, 2) := by decide +kernel
theorem dL_law_197 : decode cL_law 197 = .ok (.if_icmp .ge 51, 3) := by decide +kernel
theorem dL_law_200 : decode cL_law 200 = .ok (.aload_n 0, 1) := by decide +kernel
theorem dL_law_201 : decode cL_law 201 = .ok (.iload_n 2, 1) := by decide +kernel
theorem dL_law_202 : decode cL_law 202 = .ok (.iinc 2 1, 3) := by decide +kernel
theorem dL_law_205 : decode cL_law 205 = .ok (.invokestatic 12, 3) := by decide +kernel
theorem dL_law_208 : decode cL_law 208 = .ok (.istore_n 3, 1) := by decide +kernel
theorem dL_law_209 : decode cL_law 209 = .ok (.aload_n 1, 1) := by decide +kernel
theorem dL_law_210 : decode cL_law 210 = .ok (.iload_n 3, 1) := by decide +kernel
theorem dL_law_211 : decode cL_law 211 = .ok (.aload_n 0, 1) := by decide +kernel
theorem dL_law_212 : decode cL_law 212 = .ok (.iload_n 2, 1) := by decide +kernel
theorem dL_law_213 : decode cL_law 213 = .ok (.iinc 2 1, 3) := by decide +kernel
theorem dL_law_216 : decode cL_law 216 = .ok (.invokestatic 12, 3) := by decide +kernel
theorem dL_law_219 : decode cL_law 219 = .ok (.aload_n 0, 1) := by decide +kernel
theorem dL_law_220 : decode cL_law 220 = .ok (.iload_n 2, 1) := by decide +kernel
theorem dL_law_221 : decode cL_law 221 = .ok (.iinc 2 1, 3) := by decide +kernel
theorem dL_law_224 : decode cL_law 224 = .ok (.invokestatic 12, 3) := by decide +kernel
theorem dL_law_227 : decode cL_law 227 = .ok (.invokestatic 54, 3) := by decide +kernel
theorem dL_law_230 : decode cL_law 230 = .ok (.ifCond .eq 10, 3) := by decide +kernel
theorem dL_law_233 : decode cL_law 233 = .ok (.aload_n 1, 1) := by decide +kernel
theorem dL_law_234 : decode cL_law 234 = .ok (.invokestatic 58, 3) := by decide +kernel
theorem dL_law_237 : decode cL_law 237 = .ok (.ifCond .ne 5, 3) := by decide +kernel
theorem dL_law_240 : decode cL_law 240 = .ok (.iconst 0, 1) := by decide +kernel
theorem dL_law_241 : decode cL_law 241 = .ok (.ireturn, 1) := by decide +kernel
theorem dL_law_242 : decode cL_law 242 = .ok (.iinc 4 1, 3) := by decide +kernel
theorem dL_law_245 : decode cL_law 245 = .ok (.goto (-52), 3) := by decide +kernel
theorem dL_law_248 : decode cL_law 248 = .ok (.aload_n 1, 1) := by decide +kernel
theorem dL_law_249 : decode cL_law 249 = .ok (.invokestatic 62, 3) := by decide +kernel
theorem dL_law_252 : decode cL_law 252 = .ok (.ifCond .eq 59, 3) := by decide +kernel
theorem dL_law_255 : decode cL_law 255 = .ok (.aload_n 1, 1) := by decide +kernel
theorem dL_law_256 : decode cL_law 256 = .ok (.aload_n 0, 1) := by decide +kernel
theorem dL_law_257 : decode cL_law 257 = .ok (.iload_n 2, 1) := by decide +kernel
theorem dL_law_258 : decode cL_law 258 = .ok (.iinc 2 1, 3) := by decide +kernel
theorem dL_law_261 : decode cL_law 261 = .ok (.invokestatic 12, 3) := by decide +kernel
theorem dL_law_264 : decode cL_law 264 = .ok (.invokestatic 65, 3) := by decide +kernel
theorem dL_law_267 : decode cL_law 267 = .ok (.ifCond .eq 44, 3) := by decide +kernel
theorem dL_law_270 : decode cL_law 270 = .ok (.aload_n 1, 1) := by decide +kernel
theorem dL_law_271 : decode cL_law 271 = .ok (.aload_n 0, 1) := by decide +kernel
theorem dL_law_272 : decode cL_law 272 = .ok (.iload_n 2, 1) := by decide +kernel
theorem dL_law_273 : decode cL_law 273 = .ok (.iinc 2 1, 3) := by decide +kernel
theorem dL_law_276 : decode cL_law 276 = .ok (.invokestatic 12, 3) := by decide +kernel
theorem dL_law_279 : decode cL_law 279 = .ok (.invokestatic 68, 3) := by decide +kernel
theorem dL_law_282 : decode cL_law 282 = .ok (.ifCond .eq 29, 3) := by decide +kernel
theorem dL_law_285 : decode cL_law 285 = .ok (.aload_n 1, 1) := by decide +kernel
theorem dL_law_286 : decode cL_law 286 = .ok (.aload_n 0, 1) := by decide +kernel
theorem dL_law_287 : decode cL_law 287 = .ok (.iload_n 2, 1) := by decide +kernel
theorem dL_law_288 : decode cL_law 288 = .ok (.iinc 2 1, 3) := by decide +kernel
theorem dL_law_291 : decode cL_law 291 = .ok (.invokestatic 12, 3) := by decide +kernel
theorem dL_law_294 : decode cL_law 294 = .ok (.invokestatic 71, 3) := by decide +kernel
theorem dL_law_297 : decode cL_law 297 = .ok (.ifCond .eq 14, 3) := by decide +kernel
theorem dL_law_300 : decode cL_law 300 = .ok (.aload_n 1, 1) := by decide +kernel
theorem dL_law_301 : decode cL_law 301 = .ok (.invokestatic 62, 3) := by decide +kernel
theorem dL_law_304 : decode cL_law 304 = .ok (.ifCond .eq 7, 3) := by decide +kernel
theorem dL_law_307 : decode cL_law 307 = .ok (.iconst 1, 1) := by decide +kernel
theorem dL_law_308 : decode cL_law 308 = .ok (.goto 4, 3) := by decide +kernel
theorem dL_law_311 : decode cL_law 311 = .ok (.iconst 0, 1) := by decide +kernel
theorem dL_law_312 : decode cL_law 312 = .ok (.ireturn, 1) := by decide +kernel
