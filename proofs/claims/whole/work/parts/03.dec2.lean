theorem dX9_readsDeeds_48 : decode cX9_readsDeeds 48 = .ok (.iadd, 1) := by decide +kernel
theorem dX9_readsDeeds_49 : decode cX9_readsDeeds 49 = .ok (.invokevirtual 111, 3) := by decide +kernel
theorem dX9_readsDeeds_52 : decode cX9_readsDeeds 52 = .ok (.bipush 48, 2) := by decide +kernel
theorem dX9_readsDeeds_54 : decode cX9_readsDeeds 54 = .ok (.bipush 53, 2) := by decide +kernel
theorem dX9_readsDeeds_56 : decode cX9_readsDeeds 56 = .ok (.invokestatic 103, 3) := by decide +kernel
theorem dX9_readsDeeds_59 : decode cX9_readsDeeds 59 = .ok (.ifCond .ne 7, 3) := by decide +kernel
theorem dX9_readsDeeds_62 : decode cX9_readsDeeds 62 = .ok (.iload_n 2, 1) := by decide +kernel
theorem dX9_readsDeeds_63 : decode cX9_readsDeeds 63 = .ok (.iconst 1, 1) := by decide +kernel
theorem dX9_readsDeeds_64 : decode cX9_readsDeeds 64 = .ok (.iadd, 1) := by decide +kernel
theorem dX9_readsDeeds_65 : decode cX9_readsDeeds 65 = .ok (.ireturn, 1) := by decide +kernel
theorem dX9_readsDeeds_66 : decode cX9_readsDeeds 66 = .ok (.aload_n 0, 1) := by decide +kernel
theorem dX9_readsDeeds_67 : decode cX9_readsDeeds 67 = .ok (.iconst 0, 1) := by decide +kernel
theorem dX9_readsDeeds_68 : decode cX9_readsDeeds 68 = .ok (.iload_n 2, 1) := by decide +kernel
theorem dX9_readsDeeds_69 : decode cX9_readsDeeds 69 = .ok (.iconst 2, 1) := by decide +kernel
theorem dX9_readsDeeds_70 : decode cX9_readsDeeds 70 = .ok (.iadd, 1) := by decide +kernel
theorem dX9_readsDeeds_71 : decode cX9_readsDeeds 71 = .ok (.invokevirtual 111, 3) := by decide +kernel
theorem dX9_readsDeeds_74 : decode cX9_readsDeeds 74 = .ok (.istore_n 3, 1) := by decide +kernel
theorem dX9_readsDeeds_75 : decode cX9_readsDeeds 75 = .ok (.iload_n 3, 1) := by decide +kernel
theorem dX9_readsDeeds_76 : decode cX9_readsDeeds 76 = .ok (.bipush 114, 2) := by decide +kernel
theorem dX9_readsDeeds_78 : decode cX9_readsDeeds 78 = .ok (.if_icmp .eq 13, 3) := by decide +kernel
theorem dX9_readsDeeds_81 : decode cX9_readsDeeds 81 = .ok (.iload_n 3, 1) := by decide +kernel
theorem dX9_readsDeeds_82 : decode cX9_readsDeeds 82 = .ok (.bipush 100, 2) := by decide +kernel
theorem dX9_readsDeeds_84 : decode cX9_readsDeeds 84 = .ok (.if_icmp .eq 7, 3) := by decide +kernel
theorem dX9_readsDeeds_87 : decode cX9_readsDeeds 87 = .ok (.iload_n 2, 1) := by decide +kernel
theorem dX9_readsDeeds_88 : decode cX9_readsDeeds 88 = .ok (.iconst 2, 1) := by decide +kernel
theorem dX9_readsDeeds_89 : decode cX9_readsDeeds 89 = .ok (.iadd, 1) := by decide +kernel
theorem dX9_readsDeeds_90 : decode cX9_readsDeeds 90 = .ok (.ireturn, 1) := by decide +kernel
theorem dX9_readsDeeds_91 : decode cX9_readsDeeds 91 = .ok (.aload_n 0, 1) := by decide +kernel
theorem dX9_readsDeeds_92 : decode cX9_readsDeeds 92 = .ok (.iconst 0, 1) := by decide +kernel
theorem dX9_readsDeeds_93 : decode cX9_readsDeeds 93 = .ok (.iload_n 2, 1) := by decide +kernel
theorem dX9_readsDeeds_94 : decode cX9_readsDeeds 94 = .ok (.iconst 3, 1) := by decide +kernel
theorem dX9_readsDeeds_95 : decode cX9_readsDeeds 95 = .ok (.iadd, 1) := by decide +kernel
theorem dX9_readsDeeds_96 : decode cX9_readsDeeds 96 = .ok (.invokevirtual 111, 3) := by decide +kernel
theorem dX9_readsDeeds_99 : decode cX9_readsDeeds 99 = .ok (.bipush 49, 2) := by decide +kernel
theorem dX9_readsDeeds_101 : decode cX9_readsDeeds 101 = .ok (.bipush 57, 2) := by decide +kernel
theorem dX9_readsDeeds_103 : decode cX9_readsDeeds 103 = .ok (.invokestatic 103, 3) := by decide +kernel
theorem dX9_readsDeeds_106 : decode cX9_readsDeeds 106 = .ok (.ifCond .ne 7, 3) := by decide +kernel
theorem dX9_readsDeeds_109 : decode cX9_readsDeeds 109 = .ok (.iload_n 2, 1) := by decide +kernel
theorem dX9_readsDeeds_110 : decode cX9_readsDeeds 110 = .ok (.iconst 3, 1) := by decide +kernel
theorem dX9_readsDeeds_111 : decode cX9_readsDeeds 111 = .ok (.iadd, 1) := by decide +kernel
theorem dX9_readsDeeds_112 : decode cX9_readsDeeds 112 = .ok (.ireturn, 1) := by decide +kernel
theorem dX9_readsDeeds_113 : decode cX9_readsDeeds 113 = .ok (.aload_n 0, 1) := by decide +kernel
theorem dX9_readsDeeds_114 : decode cX9_readsDeeds 114 = .ok (.getfield 16, 3) := by decide +kernel
theorem dX9_readsDeeds_117 : decode cX9_readsDeeds 117 = .ok (.iload_n 1, 1) := by decide +kernel
theorem dX9_readsDeeds_118 : decode cX9_readsDeeds 118 = .ok (.aload_n 0, 1) := by decide +kernel
theorem dX9_readsDeeds_119 : decode cX9_readsDeeds 119 = .ok (.iconst 0, 1) := by decide +kernel
theorem dX9_readsDeeds_120 : decode cX9_readsDeeds 120 = .ok (.iload_n 2, 1) := by decide +kernel
theorem dX9_readsDeeds_121 : decode cX9_readsDeeds 121 = .ok (.invokevirtual 111, 3) := by decide +kernel
theorem dX9_readsDeeds_124 : decode cX9_readsDeeds 124 = .ok (.invokestatic 115, 3) := by decide +kernel
theorem dX9_readsDeeds_127 : decode cX9_readsDeeds 127 = .ok (.iastore, 1) := by decide +kernel
theorem dX9_readsDeeds_128 : decode cX9_readsDeeds 128 = .ok (.aload_n 0, 1) := by decide +kernel
theorem dX9_readsDeeds_129 : decode cX9_readsDeeds 129 = .ok (.getfield 19, 3) := by decide +kernel
theorem dX9_readsDeeds_132 : decode cX9_readsDeeds 132 = .ok (.iload_n 1, 1) := by decide +kernel
theorem dX9_readsDeeds_133 : decode cX9_readsDeeds 133 = .ok (.aload_n 0, 1) := by decide +kernel
theorem dX9_readsDeeds_134 : decode cX9_readsDeeds 134 = .ok (.iconst 0, 1) := by decide +kernel
theorem dX9_readsDeeds_135 : decode cX9_readsDeeds 135 = .ok (.iload_n 2, 1) := by decide +kernel
theorem dX9_readsDeeds_136 : decode cX9_readsDeeds 136 = .ok (.iconst 1, 1) := by decide +kernel
theorem dX9_readsDeeds_137 : decode cX9_readsDeeds 137 = .ok (.iadd, 1) := by decide +kernel
theorem dX9_readsDeeds_138 : decode cX9_readsDeeds 138 = .ok (.invokevirtual 111, 3) := by decide +kernel
theorem dX9_readsDeeds_141 : decode cX9_readsDeeds 141 = .ok (.bipush 48, 2) := by decide +kernel
theorem dX9_readsDeeds_143 : decode cX9_readsDeeds 143 = .ok (.isub, 1) := by decide +kernel
theorem dX9_readsDeeds_144 : decode cX9_readsDeeds 144 = .ok (.iastore, 1) := by decide +kernel
theorem dX9_readsDeeds_145 : decode cX9_readsDeeds 145 = .ok (.aload_n 0, 1) := by decide +kernel
theorem dX9_readsDeeds_146 : decode cX9_readsDeeds 146 = .ok (.getfield 22, 3) := by decide +kernel
theorem dX9_readsDeeds_149 : decode cX9_readsDeeds 149 = .ok (.iload_n 1, 1) := by decide +kernel
theorem dX9_readsDeeds_150 : decode cX9_readsDeeds 150 = .ok (.iload_n 3, 1) := by decide +kernel
theorem dX9_readsDeeds_151 : decode cX9_readsDeeds 151 = .ok (.bipush 114, 2) := by decide +kernel
theorem dX9_readsDeeds_153 : decode cX9_readsDeeds 153 = .ok (.if_icmp .ne 7, 3) := by decide +kernel
theorem dX9_readsDeeds_156 : decode cX9_readsDeeds 156 = .ok (.iconst 1, 1) := by decide +kernel
theorem dX9_readsDeeds_157 : decode cX9_readsDeeds 157 = .ok (.goto 4, 3) := by decide +kernel
theorem dX9_readsDeeds_160 : decode cX9_readsDeeds 160 = .ok (.iconst 0, 1) := by decide +kernel
theorem dX9_readsDeeds_161 : decode cX9_readsDeeds 161 = .ok (.iastore, 1) := by decide +kernel
theorem dX9_readsDeeds_162 : decode cX9_readsDeeds 162 = .ok (.aload_n 0, 1) := by decide +kernel
theorem dX9_readsDeeds_163 : decode cX9_readsDeeds 163 = .ok (.getfield 25, 3) := by decide +kernel
theorem dX9_readsDeeds_166 : decode cX9_readsDeeds 166 = .ok (.iload_n 1, 1) := by decide +kernel
theorem dX9_readsDeeds_167 : decode cX9_readsDeeds 167 = .ok (.aload_n 0, 1) := by decide +kernel
theorem dX9_readsDeeds_168 : decode cX9_readsDeeds 168 = .ok (.iconst 0, 1) := by decide +kernel
theorem dX9_readsDeeds_169 : decode cX9_readsDeeds 169 = .ok (.iload_n 2, 1) := by decide +kernel
theorem dX9_readsDeeds_170 : decode cX9_readsDeeds 170 = .ok (.iconst 3, 1) := by decide +kernel
theorem dX9_readsDeeds_171 : decode cX9_readsDeeds 171 = .ok (.iadd, 1) := by decide +kernel
theorem dX9_readsDeeds_172 : decode cX9_readsDeeds 172 = .ok (.invokevirtual 111, 3) := by decide +kernel
theorem dX9_readsDeeds_175 : decode cX9_readsDeeds 175 = .ok (.bipush 48, 2) := by decide +kernel
theorem dX9_readsDeeds_177 : decode cX9_readsDeeds 177 = .ok (.isub, 1) := by decide +kernel
theorem dX9_readsDeeds_178 : decode cX9_readsDeeds 178 = .ok (.iastore, 1) := by decide +kernel
theorem dX9_readsDeeds_179 : decode cX9_readsDeeds 179 = .ok (.aload_n 0, 1) := by decide +kernel
theorem dX9_readsDeeds_180 : decode cX9_readsDeeds 180 = .ok (.getfield 28, 3) := by decide +kernel
theorem dX9_readsDeeds_183 : decode cX9_readsDeeds 183 = .ok (.iload_n 1, 1) := by decide +kernel
theorem dX9_readsDeeds_184 : decode cX9_readsDeeds 184 = .ok (.iconst 0, 1) := by decide +kernel
theorem dX9_readsDeeds_185 : decode cX9_readsDeeds 185 = .ok (.iastore, 1) := by decide +kernel
theorem dX9_readsDeeds_186 : decode cX9_readsDeeds 186 = .ok (.iinc 2 4, 3) := by decide +kernel
theorem dX9_readsDeeds_189 : decode cX9_readsDeeds 189 = .ok (.aload_n 0, 1) := by decide +kernel
theorem dX9_readsDeeds_190 : decode cX9_readsDeeds 190 = .ok (.iconst 0, 1) := by decide +kernel
theorem dX9_readsDeeds_191 : decode cX9_readsDeeds 191 = .ok (.iload_n 2, 1) := by decide +kernel
theorem dX9_readsDeeds_192 : decode cX9_readsDeeds 192 = .ok (.invokevirtual 111, 3) := by decide +kernel
theorem dX9_readsDeeds_195 : decode cX9_readsDeeds 195 = .ok (.bipush 65, 2) := by decide +kernel
theorem dX9_readsDeeds_197 : decode cX9_readsDeeds 197 = .ok (.bipush 72, 2) := by decide +kernel
theorem dX9_readsDeeds_199 : decode cX9_readsDeeds 199 = .ok (.invokestatic 103, 3) := by decide +kernel
theorem dX9_readsDeeds_202 : decode cX9_readsDeeds 202 = .ok (.ifCond .eq 49, 3) := by decide +kernel
theorem dX9_readsDeeds_205 : decode cX9_readsDeeds 205 = .ok (.aload_n 0, 1) := by decide +kernel
theorem dX9_readsDeeds_206 : decode cX9_readsDeeds 206 = .ok (.iconst 0, 1) := by decide +kernel
theorem dX9_readsDeeds_207 : decode cX9_readsDeeds 207 = .ok (.iload_n 2, 1) := by decide +kernel
theorem dX9_readsDeeds_208 : decode cX9_readsDeeds 208 = .ok (.invokevirtual 111, 3) := by decide +kernel
theorem dX9_readsDeeds_211 : decode cX9_readsDeeds 211 = .ok (.bipush 65, 2) := by decide +kernel
theorem dX9_readsDeeds_213 : decode cX9_readsDeeds 213 = .ok (.isub, 1) := by decide +kernel
theorem dX9_readsDeeds_214 : decode cX9_readsDeeds 214 = .ok (.istore 4, 2) := by decide +kernel
theorem dX9_readsDeeds_216 : decode cX9_readsDeeds 216 = .ok (.aload_n 0, 1) := by decide +kernel
theorem dX9_readsDeeds_217 : decode cX9_readsDeeds 217 = .ok (.getfield 28, 3) := by decide +kernel
theorem dX9_readsDeeds_220 : decode cX9_readsDeeds 220 = .ok (.iload_n 1, 1) := by decide +kernel
theorem dX9_readsDeeds_221 : decode cX9_readsDeeds 221 = .ok (.iaload, 1) := by decide +kernel
theorem dX9_readsDeeds_222 : decode cX9_readsDeeds 222 = .ok (.iload 4, 2) := by decide +kernel
theorem dX9_readsDeeds_224 : decode cX9_readsDeeds 224 = .ok (.invokestatic 119, 3) := by decide +kernel
theorem dX9_readsDeeds_227 : decode cX9_readsDeeds 227 = .ok (.ifCond .eq 5, 3) := by decide +kernel
theorem dX9_readsDeeds_230 : decode cX9_readsDeeds 230 = .ok (.iload_n 2, 1) := by decide +kernel
theorem dX9_readsDeeds_231 : decode cX9_readsDeeds 231 = .ok (.ireturn, 1) := by decide +kernel
theorem dX9_readsDeeds_232 : decode cX9_readsDeeds 232 = .ok (.aload_n 0, 1) := by decide +kernel
theorem dX9_readsDeeds_233 : decode cX9_readsDeeds 233 = .ok (.getfield 28, 3) := by decide +kernel
theorem dX9_readsDeeds_236 : decode cX9_readsDeeds 236 = .ok (.iload_n 1, 1) := by decide +kernel
theorem dX9_readsDeeds_237 : decode cX9_readsDeeds 237 = .ok (.dup2, 1) := by decide +kernel
theorem dX9_readsDeeds_238 : decode cX9_readsDeeds 238 = .ok (.iaload, 1) := by decide +kernel
theorem dX9_readsDeeds_239 : decode cX9_readsDeeds 239 = .ok (.iconst 1, 1) := by decide +kernel
theorem dX9_readsDeeds_240 : decode cX9_readsDeeds 240 = .ok (.iload 4, 2) := by decide +kernel
theorem dX9_readsDeeds_242 : decode cX9_readsDeeds 242 = .ok (.ishl, 1) := by decide +kernel
theorem dX9_readsDeeds_243 : decode cX9_readsDeeds 243 = .ok (.ior, 1) := by decide +kernel
theorem dX9_readsDeeds_244 : decode cX9_readsDeeds 244 = .ok (.iastore, 1) := by decide +kernel
theorem dX9_readsDeeds_245 : decode cX9_readsDeeds 245 = .ok (.iinc 2 1, 3) := by decide +kernel
theorem dX9_readsDeeds_248 : decode cX9_readsDeeds 248 = .ok (.goto (-59), 3) := by decide +kernel
theorem dX9_readsDeeds_251 : decode cX9_readsDeeds 251 = .ok (.aload_n 0, 1) := by decide +kernel
theorem dX9_readsDeeds_252 : decode cX9_readsDeeds 252 = .ok (.getfield 28, 3) := by decide +kernel
theorem dX9_readsDeeds_255 : decode cX9_readsDeeds 255 = .ok (.iload_n 1, 1) := by decide +kernel
theorem dX9_readsDeeds_256 : decode cX9_readsDeeds 256 = .ok (.iaload, 1) := by decide +kernel
theorem dX9_readsDeeds_257 : decode cX9_readsDeeds 257 = .ok (.ifCond .ne 5, 3) := by decide +kernel
theorem dX9_readsDeeds_260 : decode cX9_readsDeeds 260 = .ok (.iload_n 2, 1) := by decide +kernel
theorem dX9_readsDeeds_261 : decode cX9_readsDeeds 261 = .ok (.ireturn, 1) := by decide +kernel
theorem dX9_readsDeeds_262 : decode cX9_readsDeeds 262 = .ok (.iinc 1 1, 3) := by decide +kernel
theorem dX9_readsDeeds_265 : decode cX9_readsDeeds 265 = .ok (.iload_n 2, 1) := by decide +kernel
theorem dX9_readsDeeds_266 : decode cX9_readsDeeds 266 = .ok (.aload_n 0, 1) := by decide +kernel
theorem dX9_readsDeeds_267 : decode cX9_readsDeeds 267 = .ok (.getfield 7, 3) := by decide +kernel
theorem dX9_readsDeeds_270 : decode cX9_readsDeeds 270 = .ok (.iconst 0, 1) := by decide +kernel
theorem dX9_readsDeeds_271 : decode cX9_readsDeeds 271 = .ok (.iaload, 1) := by decide +kernel
theorem dX9_readsDeeds_272 : decode cX9_readsDeeds 272 = .ok (.if_icmp .ne 10, 3) := by decide +kernel
theorem dX9_readsDeeds_275 : decode cX9_readsDeeds 275 = .ok (.aload_n 0, 1) := by decide +kernel
theorem dX9_readsDeeds_276 : decode cX9_readsDeeds 276 = .ok (.iload_n 1, 1) := by decide +kernel
theorem dX9_readsDeeds_277 : decode cX9_readsDeeds 277 = .ok (.putfield 107, 3) := by decide +kernel
theorem dX9_readsDeeds_280 : decode cX9_readsDeeds 280 = .ok (.iconst (-1), 1) := by decide +kernel
theorem dX9_readsDeeds_281 : decode cX9_readsDeeds 281 = .ok (.ireturn, 1) := by decide +kernel
theorem dX9_readsDeeds_282 : decode cX9_readsDeeds 282 = .ok (.aload_n 0, 1) := by decide +kernel
theorem dX9_readsDeeds_283 : decode cX9_readsDeeds 283 = .ok (.iconst 0, 1) := by decide +kernel
theorem dX9_readsDeeds_284 : decode cX9_readsDeeds 284 = .ok (.iload_n 2, 1) := by decide +kernel
theorem dX9_readsDeeds_285 : decode cX9_readsDeeds 285 = .ok (.invokevirtual 111, 3) := by decide +kernel
theorem dX9_readsDeeds_288 : decode cX9_readsDeeds 288 = .ok (.bipush 59, 2) := by decide +kernel
theorem dX9_readsDeeds_290 : decode cX9_readsDeeds 290 = .ok (.if_icmp .eq 5, 3) := by decide +kernel
theorem dX9_readsDeeds_293 : decode cX9_readsDeeds 293 = .ok (.iload_n 2, 1) := by decide +kernel
theorem dX9_readsDeeds_294 : decode cX9_readsDeeds 294 = .ok (.ireturn, 1) := by decide +kernel
theorem dX9_readsDeeds_295 : decode cX9_readsDeeds 295 = .ok (.iinc 2 1, 3) := by decide +kernel
theorem dX9_readsDeeds_298 : decode cX9_readsDeeds 298 = .ok (.goto (-289), 3) := by decide +kernel
theorem dX9_readsDeeds_301 : decode cX9_readsDeeds 301 = .ok (.iconst (-1), 1) := by decide +kernel
theorem dX9_readsDeeds_302 : decode cX9_readsDeeds 302 = .ok (.ireturn, 1) := by decide +kernel
theorem dX9_noRules_0 : decode cX9_noRules 0 = .ok (.aload_n 0, 1) := by decide +kernel
theorem dX9_noRules_1 : decode cX9_noRules 1 = .ok (.iconst 0, 1) := by decide +kernel
theorem dX9_noRules_2 : decode cX9_noRules 2 = .ok (.putfield 123, 3) := by decide +kernel
theorem dX9_noRules_5 : decode cX9_noRules 5 = .ok (.iconst 0, 1) := by decide +kernel
theorem dX9_noRules_6 : decode cX9_noRules 6 = .ok (.istore_n 1, 1) := by decide +kernel
theorem dX9_noRules_7 : decode cX9_noRules 7 = .ok (.iload_n 1, 1) := by decide +kernel
theorem dX9_noRules_8 : decode cX9_noRules 8 = .ok (.iconst 4, 1) := by decide +kernel
theorem dX9_noRules_9 : decode cX9_noRules 9 = .ok (.if_icmp .ge 30, 3) := by decide +kernel
theorem dX9_noRules_12 : decode cX9_noRules 12 = .ok (.aload_n 0, 1) := by decide +kernel
theorem dX9_noRules_13 : decode cX9_noRules 13 = .ok (.getfield 31, 3) := by decide +kernel
theorem dX9_noRules_16 : decode cX9_noRules 16 = .ok (.iload_n 1, 1) := by decide +kernel
theorem dX9_noRules_17 : decode cX9_noRules 17 = .ok (.iconst 0, 1) := by decide +kernel
theorem dX9_noRules_18 : decode cX9_noRules 18 = .ok (.iastore, 1) := by decide +kernel
theorem dX9_noRules_19 : decode cX9_noRules 19 = .ok (.aload_n 0, 1) := by decide +kernel
theorem dX9_noRules_20 : decode cX9_noRules 20 = .ok (.getfield 34, 3) := by decide +kernel
theorem dX9_noRules_23 : decode cX9_noRules 23 = .ok (.iload_n 1, 1) := by decide +kernel
theorem dX9_noRules_24 : decode cX9_noRules 24 = .ok (.iconst 0, 1) := by decide +kernel
theorem dX9_noRules_25 : decode cX9_noRules 25 = .ok (.iastore, 1) := by decide +kernel
theorem dX9_noRules_26 : decode cX9_noRules 26 = .ok (.aload_n 0, 1) := by decide +kernel
theorem dX9_noRules_27 : decode cX9_noRules 27 = .ok (.getfield 37, 3) := by decide +kernel
theorem dX9_noRules_30 : decode cX9_noRules 30 = .ok (.iload_n 1, 1) := by decide +kernel
theorem dX9_noRules_31 : decode cX9_noRules 31 = .ok (.iconst 0, 1) := by decide +kernel
theorem dX9_noRules_32 : decode cX9_noRules 32 = .ok (.iastore, 1) := by decide +kernel
theorem dX9_noRules_33 : decode cX9_noRules 33 = .ok (.iinc 1 1, 3) := by decide +kernel
theorem dX9_noRules_36 : decode cX9_noRules 36 = .ok (.goto (-29), 3) := by decide +kernel
theorem dX9_noRules_39 : decode cX9_noRules 39 = .ok (.return_, 1) := by decide +kernel
theorem dX9_readsRules_0 : decode cX9_readsRules 0 = .ok (.aload_n 0, 1) := by decide +kernel
theorem dX9_readsRules_1 : decode cX9_readsRules 1 = .ok (.invokevirtual 126, 3) := by decide +kernel
theorem dX9_readsRules_4 : decode cX9_readsRules 4 = .ok (.iconst 0, 1) := by decide +kernel
theorem dX9_readsRules_5 : decode cX9_readsRules 5 = .ok (.istore_n 1, 1) := by decide +kernel
theorem dX9_readsRules_6 : decode cX9_readsRules 6 = .ok (.iload_n 1, 1) := by decide +kernel
theorem dX9_readsRules_7 : decode cX9_readsRules 7 = .ok (.aload_n 0, 1) := by decide +kernel
theorem dX9_readsRules_8 : decode cX9_readsRules 8 = .ok (.getfield 7, 3) := by decide +kernel
theorem dX9_readsRules_11 : decode cX9_readsRules 11 = .ok (.iconst 1, 1) := by decide +kernel
theorem dX9_readsRules_12 : decode cX9_readsRules 12 = .ok (.iaload, 1) := by decide +kernel
theorem dX9_readsRules_13 : decode cX9_readsRules 13 = .ok (.if_icmp .lt 7, 3) := by decide +kernel
theorem dX9_readsRules_16 : decode cX9_readsRules 16 = .ok (.iload_n 1, 1) := by decide +kernel
theorem dX9_readsRules_17 : decode cX9_readsRules 17 = .ok (.ifCond .le 165, 3) := by decide +kernel
theorem dX9_readsRules_20 : decode cX9_readsRules 20 = .ok (.aload_n 0, 1) := by decide +kernel
theorem dX9_readsRules_21 : decode cX9_readsRules 21 = .ok (.iconst 1, 1) := by decide +kernel
theorem dX9_readsRules_22 : decode cX9_readsRules 22 = .ok (.iload_n 1, 1) := by decide +kernel
theorem dX9_readsRules_23 : decode cX9_readsRules 23 = .ok (.invokevirtual 111, 3) := by decide +kernel
theorem dX9_readsRules_26 : decode cX9_readsRules 26 = .ok (.invokestatic 115, 3) := by decide +kernel
theorem dX9_readsRules_29 : decode cX9_readsRules 29 = .ok (.istore_n 2, 1) := by decide +kernel
theorem dX9_readsRules_30 : decode cX9_readsRules 30 = .ok (.iload_n 2, 1) := by decide +kernel
theorem dX9_readsRules_31 : decode cX9_readsRules 31 = .ok (.iconst (-1), 1) := by decide +kernel
theorem dX9_readsRules_32 : decode cX9_readsRules 32 = .ok (.if_icmp .ne 5, 3) := by decide +kernel
theorem dX9_readsRules_35 : decode cX9_readsRules 35 = .ok (.iload_n 1, 1) := by decide +kernel
theorem dX9_readsRules_36 : decode cX9_readsRules 36 = .ok (.ireturn, 1) := by decide +kernel
theorem dX9_readsRules_37 : decode cX9_readsRules 37 = .ok (.aload_n 0, 1) := by decide +kernel
theorem dX9_readsRules_38 : decode cX9_readsRules 38 = .ok (.iconst 1, 1) := by decide +kernel
theorem dX9_readsRules_39 : decode cX9_readsRules 39 = .ok (.iload_n 1, 1) := by decide +kernel
theorem dX9_readsRules_40 : decode cX9_readsRules 40 = .ok (.iconst 1, 1) := by decide +kernel
theorem dX9_readsRules_41 : decode cX9_readsRules 41 = .ok (.iadd, 1) := by decide +kernel
theorem dX9_readsRules_42 : decode cX9_readsRules 42 = .ok (.invokevirtual 111, 3) := by decide +kernel
theorem dX9_readsRules_45 : decode cX9_readsRules 45 = .ok (.bipush 48, 2) := by decide +kernel
theorem dX9_readsRules_47 : decode cX9_readsRules 47 = .ok (.bipush 52, 2) := by decide +kernel
theorem dX9_readsRules_49 : decode cX9_readsRules 49 = .ok (.invokestatic 103, 3) := by decide +kernel
theorem dX9_readsRules_52 : decode cX9_readsRules 52 = .ok (.ifCond .ne 7, 3) := by decide +kernel
theorem dX9_readsRules_55 : decode cX9_readsRules 55 = .ok (.iload_n 1, 1) := by decide +kernel
theorem dX9_readsRules_56 : decode cX9_readsRules 56 = .ok (.iconst 1, 1) := by decide +kernel
theorem dX9_readsRules_57 : decode cX9_readsRules 57 = .ok (.iadd, 1) := by decide +kernel
theorem dX9_readsRules_58 : decode cX9_readsRules 58 = .ok (.ireturn, 1) := by decide +kernel
theorem dX9_readsRules_59 : decode cX9_readsRules 59 = .ok (.aload_n 0, 1) := by decide +kernel
theorem dX9_readsRules_60 : decode cX9_readsRules 60 = .ok (.getfield 31, 3) := by decide +kernel
theorem dX9_readsRules_63 : decode cX9_readsRules 63 = .ok (.iload_n 2, 1) := by decide +kernel
theorem dX9_readsRules_64 : decode cX9_readsRules 64 = .ok (.aload_n 0, 1) := by decide +kernel
theorem dX9_readsRules_65 : decode cX9_readsRules 65 = .ok (.iconst 1, 1) := by decide +kernel
theorem dX9_readsRules_66 : decode cX9_readsRules 66 = .ok (.iload_n 1, 1) := by decide +kernel
theorem dX9_readsRules_67 : decode cX9_readsRules 67 = .ok (.iconst 1, 1) := by decide +kernel
theorem dX9_readsRules_68 : decode cX9_readsRules 68 = .ok (.iadd, 1) := by decide +kernel
theorem dX9_readsRules_69 : decode cX9_readsRules 69 = .ok (.invokevirtual 111, 3) := by decide +kernel
theorem dX9_readsRules_72 : decode cX9_readsRules 72 = .ok (.bipush 48, 2) := by decide +kernel
theorem dX9_readsRules_74 : decode cX9_readsRules 74 = .ok (.isub, 1) := by decide +kernel
theorem dX9_readsRules_75 : decode cX9_readsRules 75 = .ok (.iastore, 1) := by decide +kernel
theorem dX9_readsRules_76 : decode cX9_readsRules 76 = .ok (.iinc 1 2, 3) := by decide +kernel
theorem dX9_readsRules_79 : decode cX9_readsRules 79 = .ok (.aload_n 0, 1) := by decide +kernel
theorem dX9_readsRules_80 : decode cX9_readsRules 80 = .ok (.getfield 34, 3) := by decide +kernel
theorem dX9_readsRules_83 : decode cX9_readsRules 83 = .ok (.iload_n 2, 1) := by decide +kernel
theorem dX9_readsRules_84 : decode cX9_readsRules 84 = .ok (.aload_n 0, 1) := by decide +kernel
theorem dX9_readsRules_85 : decode cX9_readsRules 85 = .ok (.iconst 1, 1) := by decide +kernel
theorem dX9_readsRules_86 : decode cX9_readsRules 86 = .ok (.iload_n 1, 1) := by decide +kernel
theorem dX9_readsRules_87 : decode cX9_readsRules 87 = .ok (.invokevirtual 111, 3) := by decide +kernel
theorem dX9_readsRules_90 : decode cX9_readsRules 90 = .ok (.bipush 119, 2) := by decide +kernel
theorem dX9_readsRules_92 : decode cX9_readsRules 92 = .ok (.if_icmp .ne 7, 3) := by decide +kernel
theorem dX9_readsRules_95 : decode cX9_readsRules 95 = .ok (.iconst 1, 1) := by decide +kernel
theorem dX9_readsRules_96 : decode cX9_readsRules 96 = .ok (.goto 4, 3) := by decide +kernel
theorem dX9_readsRules_99 : decode cX9_readsRules 99 = .ok (.iconst 0, 1) := by decide +kernel
theorem dX9_readsRules_100 : decode cX9_readsRules 100 = .ok (.iastore, 1) := by decide +kernel
theorem dX9_readsRules_101 : decode cX9_readsRules 101 = .ok (.iload_n 1, 1) := by decide +kernel
theorem dX9_readsRules_102 : decode cX9_readsRules 102 = .ok (.aload_n 0, 1) := by decide +kernel
theorem dX9_readsRules_103 : decode cX9_readsRules 103 = .ok (.getfield 34, 3) := by decide +kernel
theorem dX9_readsRules_106 : decode cX9_readsRules 106 = .ok (.iload_n 2, 1) := by decide +kernel
theorem dX9_readsRules_107 : decode cX9_readsRules 107 = .ok (.iaload, 1) := by decide +kernel
theorem dX9_readsRules_108 : decode cX9_readsRules 108 = .ok (.iadd, 1) := by decide +kernel
theorem dX9_readsRules_109 : decode cX9_readsRules 109 = .ok (.istore_n 1, 1) := by decide +kernel
theorem dX9_readsRules_110 : decode cX9_readsRules 110 = .ok (.aload_n 0, 1) := by decide +kernel
theorem dX9_readsRules_111 : decode cX9_readsRules 111 = .ok (.getfield 37, 3) := by decide +kernel
theorem dX9_readsRules_114 : decode cX9_readsRules 114 = .ok (.iload_n 2, 1) := by decide +kernel
theorem dX9_readsRules_115 : decode cX9_readsRules 115 = .ok (.aload_n 0, 1) := by decide +kernel
theorem dX9_readsRules_116 : decode cX9_readsRules 116 = .ok (.iconst 1, 1) := by decide +kernel
theorem dX9_readsRules_117 : decode cX9_readsRules 117 = .ok (.iload_n 1, 1) := by decide +kernel
theorem dX9_readsRules_118 : decode cX9_readsRules 118 = .ok (.invokevirtual 111, 3) := by decide +kernel
theorem dX9_readsRules_121 : decode cX9_readsRules 121 = .ok (.bipush 104, 2) := by decide +kernel
theorem dX9_readsRules_123 : decode cX9_readsRules 123 = .ok (.if_icmp .ne 7, 3) := by decide +kernel
theorem dX9_readsRules_126 : decode cX9_readsRules 126 = .ok (.iconst 1, 1) := by decide +kernel
theorem dX9_readsRules_127 : decode cX9_readsRules 127 = .ok (.goto 4, 3) := by decide +kernel
theorem dX9_readsRules_130 : decode cX9_readsRules 130 = .ok (.iconst 0, 1) := by decide +kernel
theorem dX9_readsRules_131 : decode cX9_readsRules 131 = .ok (.iastore, 1) := by decide +kernel
theorem dX9_readsRules_132 : decode cX9_readsRules 132 = .ok (.iload_n 1, 1) := by decide +kernel
theorem dX9_readsRules_133 : decode cX9_readsRules 133 = .ok (.aload_n 0, 1) := by decide +kernel
theorem dX9_readsRules_134 : decode cX9_readsRules 134 = .ok (.getfield 37, 3) := by decide +kernel
theorem dX9_readsRules_137 : decode cX9_readsRules 137 = .ok (.iload_n 2, 1) := by decide +kernel
theorem dX9_readsRules_138 : decode cX9_readsRules 138 = .ok (.iaload, 1) := by decide +kernel
theorem dX9_readsRules_139 : decode cX9_readsRules 139 = .ok (.iadd, 1) := by decide +kernel
theorem dX9_readsRules_140 : decode cX9_readsRules 140 = .ok (.istore_n 1, 1) := by decide +kernel
theorem dX9_readsRules_141 : decode cX9_readsRules 141 = .ok (.aload_n 0, 1) := by decide +kernel
theorem dX9_readsRules_142 : decode cX9_readsRules 142 = .ok (.dup, 1) := by decide +kernel
theorem dX9_readsRules_143 : decode cX9_readsRules 143 = .ok (.getfield 123, 3) := by decide +kernel
theorem dX9_readsRules_146 : decode cX9_readsRules 146 = .ok (.iconst 1, 1) := by decide +kernel
theorem dX9_readsRules_147 : decode cX9_readsRules 147 = .ok (.iadd, 1) := by decide +kernel
theorem dX9_readsRules_148 : decode cX9_readsRules 148 = .ok (.putfield 123, 3) := by decide +kernel
theorem dX9_readsRules_151 : decode cX9_readsRules 151 = .ok (.iload_n 1, 1) := by decide +kernel
theorem dX9_readsRules_152 : decode cX9_readsRules 152 = .ok (.aload_n 0, 1) := by decide +kernel
theorem dX9_readsRules_153 : decode cX9_readsRules 153 = .ok (.getfield 7, 3) := by decide +kernel
theorem dX9_readsRules_156 : decode cX9_readsRules 156 = .ok (.iconst 1, 1) := by decide +kernel
theorem dX9_readsRules_157 : decode cX9_readsRules 157 = .ok (.iaload, 1) := by decide +kernel
theorem dX9_readsRules_158 : decode cX9_readsRules 158 = .ok (.if_icmp .ne 5, 3) := by decide +kernel
theorem dX9_readsRules_161 : decode cX9_readsRules 161 = .ok (.iconst (-1), 1) := by decide +kernel
theorem dX9_readsRules_162 : decode cX9_readsRules 162 = .ok (.ireturn, 1) := by decide +kernel
theorem dX9_readsRules_163 : decode cX9_readsRules 163 = .ok (.aload_n 0, 1) := by decide +kernel
theorem dX9_readsRules_164 : decode cX9_readsRules 164 = .ok (.iconst 1, 1) := by decide +kernel
theorem dX9_readsRules_165 : decode cX9_readsRules 165 = .ok (.iload_n 1, 1) := by decide +kernel
theorem dX9_readsRules_166 : decode cX9_readsRules 166 = .ok (.invokevirtual 111, 3) := by decide +kernel
theorem dX9_readsRules_169 : decode cX9_readsRules 169 = .ok (.bipush 59, 2) := by decide +kernel
theorem dX9_readsRules_171 : decode cX9_readsRules 171 = .ok (.if_icmp .eq 5, 3) := by decide +kernel
theorem dX9_readsRules_174 : decode cX9_readsRules 174 = .ok (.iload_n 1, 1) := by decide +kernel
theorem dX9_readsRules_175 : decode cX9_readsRules 175 = .ok (.ireturn, 1) := by decide +kernel
theorem dX9_readsRules_176 : decode cX9_readsRules 176 = .ok (.iinc 1 1, 3) := by decide +kernel
theorem dX9_readsRules_179 : decode cX9_readsRules 179 = .ok (.goto (-173), 3) := by decide +kernel
theorem dX9_readsRules_182 : decode cX9_readsRules 182 = .ok (.iconst (-1), 1) := by decide +kernel
theorem dX9_readsRules_183 : decode cX9_readsRules 183 = .ok (.ireturn, 1) := by decide +kernel
theorem dX9_faultOf_0 : decode cX9_faultOf 0 = .ok (.iload_n 1, 1) := by decide +kernel
theorem dX9_faultOf_1 : decode cX9_faultOf 1 = .ok (.ifCond .ne 8, 3) := by decide +kernel
theorem dX9_faultOf_4 : decode cX9_faultOf 4 = .ok (.aload_n 0, 1) := by decide +kernel
theorem dX9_faultOf_5 : decode cX9_faultOf 5 = .ok (.invokevirtual 129, 3) := by decide +kernel
theorem dX9_faultOf_8 : decode cX9_faultOf 8 = .ok (.ireturn, 1) := by decide +kernel
theorem dX9_faultOf_9 : decode cX9_faultOf 9 = .ok (.aload_n 0, 1) := by decide +kernel
theorem dX9_faultOf_10 : decode cX9_faultOf 10 = .ok (.invokevirtual 133, 3) := by decide +kernel
theorem dX9_faultOf_13 : decode cX9_faultOf 13 = .ok (.istore_n 2, 1) := by decide +kernel
theorem dX9_faultOf_14 : decode cX9_faultOf 14 = .ok (.iload_n 2, 1) := by decide +kernel
theorem dX9_faultOf_15 : decode cX9_faultOf 15 = .ok (.iconst (-1), 1) := by decide +kernel
theorem dX9_faultOf_16 : decode cX9_faultOf 16 = .ok (.if_icmp .eq 7, 3) := by decide +kernel
theorem dX9_faultOf_19 : decode cX9_faultOf 19 = .ok (.aload_n 0, 1) := by decide +kernel
theorem dX9_faultOf_20 : decode cX9_faultOf 20 = .ok (.invokevirtual 126, 3) := by decide +kernel
theorem dX9_faultOf_23 : decode cX9_faultOf 23 = .ok (.iload_n 2, 1) := by decide +kernel
theorem dX9_faultOf_24 : decode cX9_faultOf 24 = .ok (.ireturn, 1) := by decide +kernel
theorem dX9_reads_0 : decode cX9_reads 0 = .ok (.aload_n 0, 1) := by decide +kernel
theorem dX9_reads_1 : decode cX9_reads 1 = .ok (.iconst 0, 1) := by decide +kernel
theorem dX9_reads_2 : decode cX9_reads 2 = .ok (.invokevirtual 136, 3) := by decide +kernel
theorem dX9_reads_5 : decode cX9_reads 5 = .ok (.istore_n 1, 1) := by decide +kernel
theorem dX9_reads_6 : decode cX9_reads 6 = .ok (.aload_n 0, 1) := by decide +kernel
theorem dX9_reads_7 : decode cX9_reads 7 = .ok (.iconst 1, 1) := by decide +kernel
theorem dX9_reads_8 : decode cX9_reads 8 = .ok (.invokevirtual 136, 3) := by decide +kernel
theorem dX9_reads_11 : decode cX9_reads 11 = .ok (.istore_n 1, 1) := by decide +kernel
theorem dX9_reads_12 : decode cX9_reads 12 = .ok (.return_, 1) := by decide +kernel
theorem dX9_fault_0 : decode cX9_fault 0 = .ok (.iload_n 1, 1) := by decide +kernel
theorem dX9_fault_1 : decode cX9_fault 1 = .ok (.iconst 0, 1) := by decide +kernel
theorem dX9_fault_2 : decode cX9_fault 2 = .ok (.iconst 1, 1) := by decide +kernel
theorem dX9_fault_3 : decode cX9_fault 3 = .ok (.invokestatic 103, 3) := by decide +kernel
theorem dX9_fault_6 : decode cX9_fault 6 = .ok (.ifCond .eq 11, 3) := by decide +kernel
theorem dX9_fault_9 : decode cX9_fault 9 = .ok (.aload_n 0, 1) := by decide +kernel
theorem dX9_fault_10 : decode cX9_fault 10 = .ok (.iload_n 1, 1) := by decide +kernel
theorem dX9_fault_11 : decode cX9_fault 11 = .ok (.invokevirtual 136, 3) := by decide +kernel
theorem dX9_fault_14 : decode cX9_fault 14 = .ok (.goto 5, 3) := by decide +kernel
theorem dX9_fault_17 : decode cX9_fault 17 = .ok (.bipush (-2), 2) := by decide +kernel
theorem dX9_fault_19 : decode cX9_fault 19 = .ok (.ireturn, 1) := by decide +kernel
theorem dX9_isDeed_0 : decode cX9_isDeed 0 = .ok (.aload_n 0, 1) := by decide +kernel
theorem dX9_isDeed_1 : decode cX9_isDeed 1 = .ok (.invokevirtual 139, 3) := by decide +kernel
theorem dX9_isDeed_4 : decode cX9_isDeed 4 = .ok (.iload_n 1, 1) := by decide +kernel
theorem dX9_isDeed_5 : decode cX9_isDeed 5 = .ok (.iconst 0, 1) := by decide +kernel
theorem dX9_isDeed_6 : decode cX9_isDeed 6 = .ok (.aload_n 0, 1) := by decide +kernel
theorem dX9_isDeed_7 : decode cX9_isDeed 7 = .ok (.getfield 107, 3) := by decide +kernel
theorem dX9_isDeed_10 : decode cX9_isDeed 10 = .ok (.iconst 1, 1) := by decide +kernel
theorem dX9_isDeed_11 : decode cX9_isDeed 11 = .ok (.isub, 1) := by decide +kernel
theorem dX9_isDeed_12 : decode cX9_isDeed 12 = .ok (.invokestatic 103, 3) := by decide +kernel
theorem dX9_isDeed_15 : decode cX9_isDeed 15 = .ok (.ireturn, 1) := by decide +kernel
theorem dX9_deedOf_0 : decode cX9_deedOf 0 = .ok (.iload_n 2, 1) := by decide +kernel
theorem dX9_deedOf_1 : decode cX9_deedOf 1 = .ok (.ifCond .ne 12, 3) := by decide +kernel
theorem dX9_deedOf_4 : decode cX9_deedOf 4 = .ok (.aload_n 0, 1) := by decide +kernel
theorem dX9_deedOf_5 : decode cX9_deedOf 5 = .ok (.getfield 16, 3) := by decide +kernel
theorem dX9_deedOf_8 : decode cX9_deedOf 8 = .ok (.iload_n 1, 1) := by decide +kernel
theorem dX9_deedOf_9 : decode cX9_deedOf 9 = .ok (.iaload, 1) := by decide +kernel
theorem dX9_deedOf_10 : decode cX9_deedOf 10 = .ok (.goto 51, 3) := by decide +kernel
theorem dX9_deedOf_13 : decode cX9_deedOf 13 = .ok (.iload_n 2, 1) := by decide +kernel
theorem dX9_deedOf_14 : decode cX9_deedOf 14 = .ok (.iconst 1, 1) := by decide +kernel
theorem dX9_deedOf_15 : decode cX9_deedOf 15 = .ok (.if_icmp .ne 12, 3) := by decide +kernel
theorem dX9_deedOf_18 : decode cX9_deedOf 18 = .ok (.aload_n 0, 1) := by decide +kernel
theorem dX9_deedOf_19 : decode cX9_deedOf 19 = .ok (.getfield 19, 3) := by decide +kernel
theorem dX9_deedOf_22 : decode cX9_deedOf 22 = .ok (.iload_n 1, 1) := by decide +kernel
theorem dX9_deedOf_23 : decode cX9_deedOf 23 = .ok (.iaload, 1) := by decide +kernel
theorem dX9_deedOf_24 : decode cX9_deedOf 24 = .ok (.goto 37, 3) := by decide +kernel
theorem dX9_deedOf_27 : decode cX9_deedOf 27 = .ok (.iload_n 2, 1) := by decide +kernel
theorem dX9_deedOf_28 : decode cX9_deedOf 28 = .ok (.iconst 2, 1) := by decide +kernel
theorem dX9_deedOf_29 : decode cX9_deedOf 29 = .ok (.if_icmp .ne 12, 3) := by decide +kernel
theorem dX9_deedOf_32 : decode cX9_deedOf 32 = .ok (.aload_n 0, 1) := by decide +kernel
theorem dX9_deedOf_33 : decode cX9_deedOf 33 = .ok (.getfield 22, 3) := by decide +kernel
theorem dX9_deedOf_36 : decode cX9_deedOf 36 = .ok (.iload_n 1, 1) := by decide +kernel
theorem dX9_deedOf_37 : decode cX9_deedOf 37 = .ok (.iaload, 1) := by decide +kernel
theorem dX9_deedOf_38 : decode cX9_deedOf 38 = .ok (.goto 23, 3) := by decide +kernel
theorem dX9_deedOf_41 : decode cX9_deedOf 41 = .ok (.iload_n 2, 1) := by decide +kernel
theorem dX9_deedOf_42 : decode cX9_deedOf 42 = .ok (.iconst 3, 1) := by decide +kernel
theorem dX9_deedOf_43 : decode cX9_deedOf 43 = .ok (.if_icmp .ne 12, 3) := by decide +kernel
theorem dX9_deedOf_46 : decode cX9_deedOf 46 = .ok (.aload_n 0, 1) := by decide +kernel
theorem dX9_deedOf_47 : decode cX9_deedOf 47 = .ok (.getfield 25, 3) := by decide +kernel
theorem dX9_deedOf_50 : decode cX9_deedOf 50 = .ok (.iload_n 1, 1) := by decide +kernel
theorem dX9_deedOf_51 : decode cX9_deedOf 51 = .ok (.iaload, 1) := by decide +kernel
theorem dX9_deedOf_52 : decode cX9_deedOf 52 = .ok (.goto 9, 3) := by decide +kernel
theorem dX9_deedOf_55 : decode cX9_deedOf 55 = .ok (.aload_n 0, 1) := by decide +kernel
theorem dX9_deedOf_56 : decode cX9_deedOf 56 = .ok (.getfield 28, 3) := by decide +kernel
theorem dX9_deedOf_59 : decode cX9_deedOf 59 = .ok (.iload_n 1, 1) := by decide +kernel
theorem dX9_deedOf_60 : decode cX9_deedOf 60 = .ok (.iaload, 1) := by decide +kernel
theorem dX9_deedOf_61 : decode cX9_deedOf 61 = .ok (.ireturn, 1) := by decide +kernel
theorem dX9_deed_0 : decode cX9_deed 0 = .ok (.aload_n 0, 1) := by decide +kernel
theorem dX9_deed_1 : decode cX9_deed 1 = .ok (.iload_n 1, 1) := by decide +kernel
theorem dX9_deed_2 : decode cX9_deed 2 = .ok (.invokevirtual 142, 3) := by decide +kernel
theorem dX9_deed_5 : decode cX9_deed 5 = .ok (.ifCond .eq 21, 3) := by decide +kernel
theorem dX9_deed_8 : decode cX9_deed 8 = .ok (.iload_n 2, 1) := by decide +kernel
theorem dX9_deed_9 : decode cX9_deed 9 = .ok (.iconst 0, 1) := by decide +kernel
theorem dX9_deed_10 : decode cX9_deed 10 = .ok (.iconst 4, 1) := by decide +kernel
theorem dX9_deed_11 : decode cX9_deed 11 = .ok (.invokestatic 103, 3) := by decide +kernel
theorem dX9_deed_14 : decode cX9_deed 14 = .ok (.ifCond .eq 12, 3) := by decide +kernel
theorem dX9_deed_17 : decode cX9_deed 17 = .ok (.aload_n 0, 1) := by decide +kernel
theorem dX9_deed_18 : decode cX9_deed 18 = .ok (.iload_n 1, 1) := by decide +kernel
theorem dX9_deed_19 : decode cX9_deed 19 = .ok (.iload_n 2, 1) := by decide +kernel
theorem dX9_deed_20 : decode cX9_deed 20 = .ok (.invokevirtual 146, 3) := by decide +kernel
theorem dX9_deed_23 : decode cX9_deed 23 = .ok (.goto 5, 3) := by decide +kernel
theorem dX9_deed_26 : decode cX9_deed 26 = .ok (.bipush (-2), 2) := by decide +kernel
theorem dX9_deed_28 : decode cX9_deed 28 = .ok (.ireturn, 1) := by decide +kernel
theorem dX9_ruleOf_0 : decode cX9_ruleOf 0 = .ok (.aload_n 0, 1) := by decide +kernel
theorem dX9_ruleOf_1 : decode cX9_ruleOf 1 = .ok (.invokevirtual 139, 3) := by decide +kernel
theorem dX9_ruleOf_4 : decode cX9_ruleOf 4 = .ok (.iload_n 2, 1) := by decide +kernel
theorem dX9_ruleOf_5 : decode cX9_ruleOf 5 = .ok (.ifCond .ne 12, 3) := by decide +kernel
theorem dX9_ruleOf_8 : decode cX9_ruleOf 8 = .ok (.aload_n 0, 1) := by decide +kernel
theorem dX9_ruleOf_9 : decode cX9_ruleOf 9 = .ok (.getfield 31, 3) := by decide +kernel
theorem dX9_ruleOf_12 : decode cX9_ruleOf 12 = .ok (.iload_n 1, 1) := by decide +kernel
theorem dX9_ruleOf_13 : decode cX9_ruleOf 13 = .ok (.iaload, 1) := by decide +kernel
theorem dX9_ruleOf_14 : decode cX9_ruleOf 14 = .ok (.goto 23, 3) := by decide +kernel
theorem dX9_ruleOf_17 : decode cX9_ruleOf 17 = .ok (.iload_n 2, 1) := by decide +kernel
theorem dX9_ruleOf_18 : decode cX9_ruleOf 18 = .ok (.iconst 1, 1) := by decide +kernel
theorem dX9_ruleOf_19 : decode cX9_ruleOf 19 = .ok (.if_icmp .ne 12, 3) := by decide +kernel
theorem dX9_ruleOf_22 : decode cX9_ruleOf 22 = .ok (.aload_n 0, 1) := by decide +kernel
theorem dX9_ruleOf_23 : decode cX9_ruleOf 23 = .ok (.getfield 34, 3) := by decide +kernel
theorem dX9_ruleOf_26 : decode cX9_ruleOf 26 = .ok (.iload_n 1, 1) := by decide +kernel
theorem dX9_ruleOf_27 : decode cX9_ruleOf 27 = .ok (.iaload, 1) := by decide +kernel
theorem dX9_ruleOf_28 : decode cX9_ruleOf 28 = .ok (.goto 9, 3) := by decide +kernel
theorem dX9_ruleOf_31 : decode cX9_ruleOf 31 = .ok (.aload_n 0, 1) := by decide +kernel
theorem dX9_ruleOf_32 : decode cX9_ruleOf 32 = .ok (.getfield 37, 3) := by decide +kernel
theorem dX9_ruleOf_35 : decode cX9_ruleOf 35 = .ok (.iload_n 1, 1) := by decide +kernel
theorem dX9_ruleOf_36 : decode cX9_ruleOf 36 = .ok (.iaload, 1) := by decide +kernel
theorem dX9_ruleOf_37 : decode cX9_ruleOf 37 = .ok (.ireturn, 1) := by decide +kernel
theorem dX9_rule_0 : decode cX9_rule 0 = .ok (.iload_n 1, 1) := by decide +kernel
theorem dX9_rule_1 : decode cX9_rule 1 = .ok (.iconst 0, 1) := by decide +kernel
theorem dX9_rule_2 : decode cX9_rule 2 = .ok (.iconst 3, 1) := by decide +kernel
theorem dX9_rule_3 : decode cX9_rule 3 = .ok (.invokestatic 103, 3) := by decide +kernel
theorem dX9_rule_6 : decode cX9_rule 6 = .ok (.ifCond .eq 21, 3) := by decide +kernel
theorem dX9_rule_9 : decode cX9_rule 9 = .ok (.iload_n 2, 1) := by decide +kernel
theorem dX9_rule_10 : decode cX9_rule 10 = .ok (.iconst 0, 1) := by decide +kernel
theorem dX9_rule_11 : decode cX9_rule 11 = .ok (.iconst 2, 1) := by decide +kernel
theorem dX9_rule_12 : decode cX9_rule 12 = .ok (.invokestatic 103, 3) := by decide +kernel
theorem dX9_rule_15 : decode cX9_rule 15 = .ok (.ifCond .eq 12, 3) := by decide +kernel
theorem dX9_rule_18 : decode cX9_rule 18 = .ok (.aload_n 0, 1) := by decide +kernel
theorem dX9_rule_19 : decode cX9_rule 19 = .ok (.iload_n 1, 1) := by decide +kernel
theorem dX9_rule_20 : decode cX9_rule 20 = .ok (.iload_n 2, 1) := by decide +kernel
theorem dX9_rule_21 : decode cX9_rule 21 = .ok (.invokevirtual 149, 3) := by decide +kernel
theorem dX9_rule_24 : decode cX9_rule 24 = .ok (.goto 5, 3) := by decide +kernel
theorem dX9_rule_27 : decode cX9_rule 27 = .ok (.bipush (-2), 2) := by decide +kernel
theorem dX9_rule_29 : decode cX9_rule 29 = .ok (.ireturn, 1) := by decide +kernel
theorem dX9_isPerson_0 : decode cX9_isPerson 0 = .ok (.iload_n 0, 1) := by decide +kernel
theorem dX9_isPerson_1 : decode cX9_isPerson 1 = .ok (.iconst 0, 1) := by decide +kernel
theorem dX9_isPerson_2 : decode cX9_isPerson 2 = .ok (.bipush 7, 2) := by decide +kernel
theorem dX9_isPerson_4 : decode cX9_isPerson 4 = .ok (.invokestatic 103, 3) := by decide +kernel
theorem dX9_isPerson_7 : decode cX9_isPerson 7 = .ok (.ireturn, 1) := by decide +kernel
theorem dX9_isHour_0 : decode cX9_isHour 0 = .ok (.iload_n 0, 1) := by decide +kernel
theorem dX9_isHour_1 : decode cX9_isHour 1 = .ok (.iconst 0, 1) := by decide +kernel
theorem dX9_isHour_2 : decode cX9_isHour 2 = .ok (.bipush 7, 2) := by decide +kernel
theorem dX9_isHour_4 : decode cX9_isHour 4 = .ok (.invokestatic 103, 3) := by decide +kernel
theorem dX9_isHour_7 : decode cX9_isHour 7 = .ok (.ireturn, 1) := by decide +kernel
theorem dX9_person_0 : decode cX9_person 0 = .ok (.iload_n 1, 1) := by decide +kernel
theorem dX9_person_1 : decode cX9_person 1 = .ok (.invokestatic 152, 3) := by decide +kernel
theorem dX9_person_4 : decode cX9_person 4 = .ok (.ifCond .eq 51, 3) := by decide +kernel
theorem dX9_person_7 : decode cX9_person 7 = .ok (.iload_n 2, 1) := by decide +kernel
theorem dX9_person_8 : decode cX9_person 8 = .ok (.iconst 0, 1) := by decide +kernel
theorem dX9_person_9 : decode cX9_person 9 = .ok (.iconst 3, 1) := by decide +kernel
theorem dX9_person_10 : decode cX9_person 10 = .ok (.invokestatic 103, 3) := by decide +kernel
theorem dX9_person_13 : decode cX9_person 13 = .ok (.ifCond .eq 42, 3) := by decide +kernel
theorem dX9_person_16 : decode cX9_person 16 = .ok (.iload_n 3, 1) := by decide +kernel
theorem dX9_person_17 : decode cX9_person 17 = .ok (.iconst 0, 1) := by decide +kernel
theorem dX9_person_18 : decode cX9_person 18 = .ok (.iload_n 2, 1) := by decide +kernel
theorem dX9_person_19 : decode cX9_person 19 = .ok (.ifCond .ne 8, 3) := by decide +kernel
theorem dX9_person_22 : decode cX9_person 22 = .ok (.bipush 7, 2) := by decide +kernel
theorem dX9_person_24 : decode cX9_person 24 = .ok (.goto 25, 3) := by decide +kernel
theorem dX9_person_27 : decode cX9_person 27 = .ok (.iload_n 2, 1) := by decide +kernel
theorem dX9_person_28 : decode cX9_person 28 = .ok (.iconst 1, 1) := by decide +kernel
theorem dX9_person_29 : decode cX9_person 29 = .ok (.if_icmp .ne 8, 3) := by decide +kernel
theorem dX9_person_32 : decode cX9_person 32 = .ok (.bipush 8, 2) := by decide +kernel
theorem dX9_person_34 : decode cX9_person 34 = .ok (.goto 15, 3) := by decide +kernel
theorem dX9_person_37 : decode cX9_person 37 = .ok (.iload_n 2, 1) := by decide +kernel
theorem dX9_person_38 : decode cX9_person 38 = .ok (.iconst 2, 1) := by decide +kernel
theorem dX9_person_39 : decode cX9_person 39 = .ok (.if_icmp .ne 8, 3) := by decide +kernel
theorem dX9_person_42 : decode cX9_person 42 = .ok (.bipush 99, 2) := by decide +kernel
theorem dX9_person_44 : decode cX9_person 44 = .ok (.goto 5, 3) := by decide +kernel
theorem dX9_person_47 : decode cX9_person 47 = .ok (.bipush 16, 2) := by decide +kernel
theorem dX9_person_49 : decode cX9_person 49 = .ok (.invokestatic 103, 3) := by decide +kernel
theorem dX9_person_52 : decode cX9_person 52 = .ok (.ifCond .ne 6, 3) := by decide +kernel
theorem dX9_person_55 : decode cX9_person 55 = .ok (.bipush (-2), 2) := by decide +kernel
theorem dX9_person_57 : decode cX9_person 57 = .ok (.ireturn, 1) := by decide +kernel
theorem dX9_person_58 : decode cX9_person 58 = .ok (.iload_n 2, 1) := by decide +kernel
theorem dX9_person_59 : decode cX9_person 59 = .ok (.ifCond .ne 12, 3) := by decide +kernel
theorem dX9_person_62 : decode cX9_person 62 = .ok (.aload_n 0, 1) := by decide +kernel
theorem dX9_person_63 : decode cX9_person 63 = .ok (.getfield 40, 3) := by decide +kernel
theorem dX9_person_66 : decode cX9_person 66 = .ok (.iload_n 1, 1) := by decide +kernel
theorem dX9_person_67 : decode cX9_person 67 = .ok (.iaload, 1) := by decide +kernel
theorem dX9_person_68 : decode cX9_person 68 = .ok (.goto 37, 3) := by decide +kernel
theorem dX9_person_71 : decode cX9_person 71 = .ok (.iload_n 2, 1) := by decide +kernel
theorem dX9_person_72 : decode cX9_person 72 = .ok (.iconst 1, 1) := by decide +kernel
theorem dX9_person_73 : decode cX9_person 73 = .ok (.if_icmp .ne 12, 3) := by decide +kernel
theorem dX9_person_76 : decode cX9_person 76 = .ok (.aload_n 0, 1) := by decide +kernel
theorem dX9_person_77 : decode cX9_person 77 = .ok (.getfield 43, 3) := by decide +kernel
theorem dX9_person_80 : decode cX9_person 80 = .ok (.iload_n 1, 1) := by decide +kernel
theorem dX9_person_81 : decode cX9_person 81 = .ok (.iaload, 1) := by decide +kernel
theorem dX9_person_82 : decode cX9_person 82 = .ok (.goto 23, 3) := by decide +kernel
theorem dX9_person_85 : decode cX9_person 85 = .ok (.iload_n 2, 1) := by decide +kernel
theorem dX9_person_86 : decode cX9_person 86 = .ok (.iconst 2, 1) := by decide +kernel
theorem dX9_person_87 : decode cX9_person 87 = .ok (.if_icmp .ne 12, 3) := by decide +kernel
theorem dX9_person_90 : decode cX9_person 90 = .ok (.aload_n 0, 1) := by decide +kernel
theorem dX9_person_91 : decode cX9_person 91 = .ok (.getfield 46, 3) := by decide +kernel
theorem dX9_person_94 : decode cX9_person 94 = .ok (.iload_n 1, 1) := by decide +kernel
theorem dX9_person_95 : decode cX9_person 95 = .ok (.iaload, 1) := by decide +kernel
theorem dX9_person_96 : decode cX9_person 96 = .ok (.goto 9, 3) := by decide +kernel
theorem dX9_person_99 : decode cX9_person 99 = .ok (.aload_n 0, 1) := by decide +kernel
theorem dX9_person_100 : decode cX9_person 100 = .ok (.getfield 49, 3) := by decide +kernel
theorem dX9_person_103 : decode cX9_person 103 = .ok (.iload_n 1, 1) := by decide +kernel
theorem dX9_person_104 : decode cX9_person 104 = .ok (.iaload, 1) := by decide +kernel
theorem dX9_person_105 : decode cX9_person 105 = .ok (.istore 4, 2) := by decide +kernel
theorem dX9_person_107 : decode cX9_person 107 = .ok (.iload_n 2, 1) := by decide +kernel
theorem dX9_person_108 : decode cX9_person 108 = .ok (.ifCond .ne 13, 3) := by decide +kernel
theorem dX9_person_111 : decode cX9_person 111 = .ok (.aload_n 0, 1) := by decide +kernel
theorem dX9_person_112 : decode cX9_person 112 = .ok (.getfield 40, 3) := by decide +kernel
theorem dX9_person_115 : decode cX9_person 115 = .ok (.iload_n 1, 1) := by decide +kernel
theorem dX9_person_116 : decode cX9_person 116 = .ok (.iload_n 3, 1) := by decide +kernel
theorem dX9_person_117 : decode cX9_person 117 = .ok (.iastore, 1) := by decide +kernel
theorem dX9_person_118 : decode cX9_person 118 = .ok (.goto 40, 3) := by decide +kernel
theorem dX9_person_121 : decode cX9_person 121 = .ok (.iload_n 2, 1) := by decide +kernel
theorem dX9_person_122 : decode cX9_person 122 = .ok (.iconst 1, 1) := by decide +kernel
theorem dX9_person_123 : decode cX9_person 123 = .ok (.if_icmp .ne 13, 3) := by decide +kernel
theorem dX9_person_126 : decode cX9_person 126 = .ok (.aload_n 0, 1) := by decide +kernel
theorem dX9_person_127 : decode cX9_person 127 = .ok (.getfield 43, 3) := by decide +kernel
theorem dX9_person_130 : decode cX9_person 130 = .ok (.iload_n 1, 1) := by decide +kernel
theorem dX9_person_131 : decode cX9_person 131 = .ok (.iload_n 3, 1) := by decide +kernel
theorem dX9_person_132 : decode cX9_person 132 = .ok (.iastore, 1) := by decide +kernel
theorem dX9_person_133 : decode cX9_person 133 = .ok (.goto 25, 3) := by decide +kernel
theorem dX9_person_136 : decode cX9_person 136 = .ok (.iload_n 2, 1) := by decide +kernel
theorem dX9_person_137 : decode cX9_person 137 = .ok (.iconst 2, 1) := by decide +kernel
theorem dX9_person_138 : decode cX9_person 138 = .ok (.if_icmp .ne 13, 3) := by decide +kernel
theorem dX9_person_141 : decode cX9_person 141 = .ok (.aload_n 0, 1) := by decide +kernel
theorem dX9_person_142 : decode cX9_person 142 = .ok (.getfield 46, 3) := by decide +kernel
theorem dX9_person_145 : decode cX9_person 145 = .ok (.iload_n 1, 1) := by decide +kernel
theorem dX9_person_146 : decode cX9_person 146 = .ok (.iload_n 3, 1) := by decide +kernel
theorem dX9_person_147 : decode cX9_person 147 = .ok (.iastore, 1) := by decide +kernel
theorem dX9_person_148 : decode cX9_person 148 = .ok (.goto 10, 3) := by decide +kernel
theorem dX9_person_151 : decode cX9_person 151 = .ok (.aload_n 0, 1) := by decide +kernel
theorem dX9_person_152 : decode cX9_person 152 = .ok (.getfield 49, 3) := by decide +kernel
theorem dX9_person_155 : decode cX9_person 155 = .ok (.iload_n 1, 1) := by decide +kernel
theorem dX9_person_156 : decode cX9_person 156 = .ok (.iload_n 3, 1) := by decide +kernel
theorem dX9_person_157 : decode cX9_person 157 = .ok (.iastore, 1) := by decide +kernel
theorem dX9_person_158 : decode cX9_person 158 = .ok (.iload 4, 2) := by decide +kernel
theorem dX9_person_160 : decode cX9_person 160 = .ok (.ireturn, 1) := by decide +kernel
theorem dX9_weather_0 : decode cX9_weather 0 = .ok (.iload_n 1, 1) := by decide +kernel
theorem dX9_weather_1 : decode cX9_weather 1 = .ok (.invokestatic 155, 3) := by decide +kernel
theorem dX9_weather_4 : decode cX9_weather 4 = .ok (.ifCond .eq 12, 3) := by decide +kernel
theorem dX9_weather_7 : decode cX9_weather 7 = .ok (.iload_n 2, 1) := by decide +kernel
theorem dX9_weather_8 : decode cX9_weather 8 = .ok (.iconst 0, 1) := by decide +kernel
theorem dX9_weather_9 : decode cX9_weather 9 = .ok (.iconst 1, 1) := by decide +kernel
theorem dX9_weather_10 : decode cX9_weather 10 = .ok (.invokestatic 103, 3) := by decide +kernel
theorem dX9_weather_13 : decode cX9_weather 13 = .ok (.ifCond .ne 6, 3) := by decide +kernel
theorem dX9_weather_16 : decode cX9_weather 16 = .ok (.bipush (-2), 2) := by decide +kernel
theorem dX9_weather_18 : decode cX9_weather 18 = .ok (.ireturn, 1) := by decide +kernel
theorem dX9_weather_19 : decode cX9_weather 19 = .ok (.aload_n 0, 1) := by decide +kernel
theorem dX9_weather_20 : decode cX9_weather 20 = .ok (.getfield 52, 3) := by decide +kernel
theorem dX9_weather_23 : decode cX9_weather 23 = .ok (.iload_n 1, 1) := by decide +kernel
theorem dX9_weather_24 : decode cX9_weather 24 = .ok (.iaload, 1) := by decide +kernel
theorem dX9_weather_25 : decode cX9_weather 25 = .ok (.istore_n 3, 1) := by decide +kernel
theorem dX9_weather_26 : decode cX9_weather 26 = .ok (.aload_n 0, 1) := by decide +kernel
theorem dX9_weather_27 : decode cX9_weather 27 = .ok (.getfield 52, 3) := by decide +kernel
theorem dX9_weather_30 : decode cX9_weather 30 = .ok (.iload_n 1, 1) := by decide +kernel
theorem dX9_weather_31 : decode cX9_weather 31 = .ok (.iload_n 2, 1) := by decide +kernel
theorem dX9_weather_32 : decode cX9_weather 32 = .ok (.iastore, 1) := by decide +kernel
theorem dX9_weather_33 : decode cX9_weather 33 = .ok (.iload_n 3, 1) := by decide +kernel
theorem dX9_weather_34 : decode cX9_weather 34 = .ok (.ireturn, 1) := by decide +kernel
theorem dX9_set_0 : decode cX9_set 0 = .ok (.iload_n 1, 1) := by decide +kernel
theorem dX9_set_1 : decode cX9_set 1 = .ok (.iconst 0, 1) := by decide +kernel
theorem dX9_set_2 : decode cX9_set 2 = .ok (.iconst 3, 1) := by decide +kernel
theorem dX9_set_3 : decode cX9_set 3 = .ok (.invokestatic 103, 3) := by decide +kernel
theorem dX9_set_6 : decode cX9_set 6 = .ok (.ifCond .eq 42, 3) := by decide +kernel
theorem dX9_set_9 : decode cX9_set 9 = .ok (.iload_n 2, 1) := by decide +kernel
theorem dX9_set_10 : decode cX9_set 10 = .ok (.iconst 0, 1) := by decide +kernel
theorem dX9_set_11 : decode cX9_set 11 = .ok (.iload_n 1, 1) := by decide +kernel
theorem dX9_set_12 : decode cX9_set 12 = .ok (.ifCond .ne 8, 3) := by decide +kernel
theorem dX9_set_15 : decode cX9_set 15 = .ok (.bipush 99, 2) := by decide +kernel
theorem dX9_set_17 : decode cX9_set 17 = .ok (.goto 25, 3) := by decide +kernel
theorem dX9_set_20 : decode cX9_set 20 = .ok (.iload_n 1, 1) := by decide +kernel
theorem dX9_set_21 : decode cX9_set 21 = .ok (.iconst 1, 1) := by decide +kernel
theorem dX9_set_22 : decode cX9_set 22 = .ok (.if_icmp .ne 7, 3) := by decide +kernel
theorem dX9_set_25 : decode cX9_set 25 = .ok (.iconst 1, 1) := by decide +kernel
theorem dX9_set_26 : decode cX9_set 26 = .ok (.goto 16, 3) := by decide +kernel
theorem dX9_set_29 : decode cX9_set 29 = .ok (.iload_n 1, 1) := by decide +kernel
theorem dX9_set_30 : decode cX9_set 30 = .ok (.iconst 2, 1) := by decide +kernel
theorem dX9_set_31 : decode cX9_set 31 = .ok (.if_icmp .ne 9, 3) := by decide +kernel
theorem dX9_set_34 : decode cX9_set 34 = .ok (.sipush 999, 3) := by decide +kernel
theorem dX9_set_37 : decode cX9_set 37 = .ok (.goto 5, 3) := by decide +kernel
theorem dX9_set_40 : decode cX9_set 40 = .ok (.bipush 10, 2) := by decide +kernel
theorem dX9_set_42 : decode cX9_set 42 = .ok (.invokestatic 103, 3) := by decide +kernel
theorem dX9_set_45 : decode cX9_set 45 = .ok (.ifCond .ne 6, 3) := by decide +kernel
theorem dX9_set_48 : decode cX9_set 48 = .ok (.bipush (-2), 2) := by decide +kernel
theorem dX9_set_50 : decode cX9_set 50 = .ok (.ireturn, 1) := by decide +kernel
theorem dX9_set_51 : decode cX9_set 51 = .ok (.aload_n 0, 1) := by decide +kernel
theorem dX9_set_52 : decode cX9_set 52 = .ok (.getfield 55, 3) := by decide +kernel
theorem dX9_set_55 : decode cX9_set 55 = .ok (.iload_n 1, 1) := by decide +kernel
theorem dX9_set_56 : decode cX9_set 56 = .ok (.iaload, 1) := by decide +kernel
theorem dX9_set_57 : decode cX9_set 57 = .ok (.istore_n 3, 1) := by decide +kernel
theorem dX9_set_58 : decode cX9_set 58 = .ok (.aload_n 0, 1) := by decide +kernel
theorem dX9_set_59 : decode cX9_set 59 = .ok (.getfield 55, 3) := by decide +kernel
theorem dX9_set_62 : decode cX9_set 62 = .ok (.iload_n 1, 1) := by decide +kernel
theorem dX9_set_63 : decode cX9_set 63 = .ok (.iload_n 2, 1) := by decide +kernel
theorem dX9_set_64 : decode cX9_set 64 = .ok (.iastore, 1) := by decide +kernel
theorem dX9_set_65 : decode cX9_set 65 = .ok (.iload_n 3, 1) := by decide +kernel
theorem dX9_set_66 : decode cX9_set 66 = .ok (.ireturn, 1) := by decide +kernel
theorem dX9_read_0 : decode cX9_read 0 = .ok (.iload_n 1, 1) := by decide +kernel
theorem dX9_read_1 : decode cX9_read 1 = .ok (.invokestatic 158, 3) := by decide +kernel
theorem dX9_read_4 : decode cX9_read 4 = .ok (.ifCond .ne 6, 3) := by decide +kernel
theorem dX9_read_7 : decode cX9_read 7 = .ok (.bipush (-2), 2) := by decide +kernel
theorem dX9_read_9 : decode cX9_read 9 = .ok (.ireturn, 1) := by decide +kernel
theorem dX9_read_10 : decode cX9_read 10 = .ok (.aload_n 0, 1) := by decide +kernel
theorem dX9_read_11 : decode cX9_read 11 = .ok (.getfield 85, 3) := by decide +kernel
theorem dX9_read_14 : decode cX9_read 14 = .ok (.iload_n 1, 1) := by decide +kernel
theorem dX9_read_15 : decode cX9_read 15 = .ok (.baload, 1) := by decide +kernel
theorem dX9_read_16 : decode cX9_read 16 = .ok (.ifCond .ne 9, 3) := by decide +kernel
theorem dX9_read_19 : decode cX9_read 19 = .ok (.aload_n 0, 1) := by decide +kernel
theorem dX9_read_20 : decode cX9_read 20 = .ok (.iconst 1, 1) := by decide +kernel
theorem dX9_read_21 : decode cX9_read 21 = .ok (.invokevirtual 161, 3) := by decide +kernel
theorem dX9_read_24 : decode cX9_read 24 = .ok (.ireturn, 1) := by decide +kernel
theorem dX9_read_25 : decode cX9_read 25 = .ok (.iconst 0, 1) := by decide +kernel
theorem dX9_read_26 : decode cX9_read 26 = .ok (.istore_n 2, 1) := by decide +kernel
theorem dX9_read_27 : decode cX9_read 27 = .ok (.iload_n 2, 1) := by decide +kernel
theorem dX9_read_28 : decode cX9_read 28 = .ok (.aload_n 0, 1) := by decide +kernel
theorem dX9_read_29 : decode cX9_read 29 = .ok (.getfield 92, 3) := by decide +kernel
theorem dX9_read_32 : decode cX9_read 32 = .ok (.iload_n 1, 1) := by decide +kernel
theorem dX9_read_33 : decode cX9_read 33 = .ok (.iaload, 1) := by decide +kernel
theorem dX9_read_34 : decode cX9_read 34 = .ok (.if_icmp .ge 51, 3) := by decide +kernel
theorem dX9_read_37 : decode cX9_read 37 = .ok (.iload_n 2, 1) := by decide +kernel
theorem dX9_read_38 : decode cX9_read 38 = .ok (.bipush 8, 2) := by decide +kernel
theorem dX9_read_40 : decode cX9_read 40 = .ok (.if_icmp .ge 45, 3) := by decide +kernel
theorem dX9_read_43 : decode cX9_read 43 = .ok (.aload_n 0, 1) := by decide +kernel
theorem dX9_read_44 : decode cX9_read 44 = .ok (.getfield 95, 3) := by decide +kernel
theorem dX9_read_47 : decode cX9_read 47 = .ok (.bipush 60, 2) := by decide +kernel
theorem dX9_read_49 : decode cX9_read 49 = .ok (.iload_n 1, 1) := by decide +kernel
theorem dX9_read_50 : decode cX9_read 50 = .ok (.imul, 1) := by decide +kernel
theorem dX9_read_51 : decode cX9_read 51 = .ok (.iload_n 2, 1) := by decide +kernel
theorem dX9_read_52 : decode cX9_read 52 = .ok (.iadd, 1) := by decide +kernel
theorem dX9_read_53 : decode cX9_read 53 = .ok (.iaload, 1) := by decide +kernel
theorem dX9_read_54 : decode cX9_read 54 = .ok (.iconst 0, 1) := by decide +kernel
theorem dX9_read_55 : decode cX9_read 55 = .ok (.iconst 1, 1) := by decide +kernel
theorem dX9_read_56 : decode cX9_read 56 = .ok (.invokestatic 103, 3) := by decide +kernel
theorem dX9_read_59 : decode cX9_read 59 = .ok (.ifCond .eq 26, 3) := by decide +kernel
theorem dX9_read_62 : decode cX9_read 62 = .ok (.aload_n 0, 1) := by decide +kernel
theorem dX9_read_63 : decode cX9_read 63 = .ok (.getfield 52, 3) := by decide +kernel
theorem dX9_read_66 : decode cX9_read 66 = .ok (.iload_n 2, 1) := by decide +kernel
theorem dX9_read_67 : decode cX9_read 67 = .ok (.aload_n 0, 1) := by decide +kernel
theorem dX9_read_68 : decode cX9_read 68 = .ok (.getfield 95, 3) := by decide +kernel
theorem dX9_read_71 : decode cX9_read 71 = .ok (.bipush 60, 2) := by decide +kernel
theorem dX9_read_73 : decode cX9_read 73 = .ok (.iload_n 1, 1) := by decide +kernel
theorem dX9_read_74 : decode cX9_read 74 = .ok (.imul, 1) := by decide +kernel
theorem dX9_read_75 : decode cX9_read 75 = .ok (.iload_n 2, 1) := by decide +kernel
theorem dX9_read_76 : decode cX9_read 76 = .ok (.iadd, 1) := by decide +kernel
theorem dX9_read_77 : decode cX9_read 77 = .ok (.iaload, 1) := by decide +kernel
theorem dX9_read_78 : decode cX9_read 78 = .ok (.iastore, 1) := by decide +kernel
theorem dX9_read_79 : decode cX9_read 79 = .ok (.iinc 2 1, 3) := by decide +kernel
theorem dX9_read_82 : decode cX9_read 82 = .ok (.goto (-55), 3) := by decide +kernel
theorem dX9_read_85 : decode cX9_read 85 = .ok (.iload_n 2, 1) := by decide +kernel
theorem dX9_read_86 : decode cX9_read 86 = .ok (.ireturn, 1) := by decide +kernel
theorem dX9_needs_0 : decode cX9_needs 0 = .ok (.aload_n 0, 1) := by decide +kernel
theorem dX9_needs_1 : decode cX9_needs 1 = .ok (.getfield 28, 3) := by decide +kernel
theorem dX9_needs_4 : decode cX9_needs 4 = .ok (.iload_n 1, 1) := by decide +kernel
theorem dX9_needs_5 : decode cX9_needs 5 = .ok (.iaload, 1) := by decide +kernel
theorem dX9_needs_6 : decode cX9_needs 6 = .ok (.invokestatic 164, 3) := by decide +kernel
theorem dX9_needs_9 : decode cX9_needs 9 = .ok (.istore_n 2, 1) := by decide +kernel
theorem dX9_needs_10 : decode cX9_needs 10 = .ok (.aload_n 0, 1) := by decide +kernel
theorem dX9_needs_11 : decode cX9_needs 11 = .ok (.getfield 31, 3) := by decide +kernel
theorem dX9_needs_14 : decode cX9_needs 14 = .ok (.aload_n 0, 1) := by decide +kernel
theorem dX9_needs_15 : decode cX9_needs 15 = .ok (.getfield 16, 3) := by decide +kernel
theorem dX9_needs_18 : decode cX9_needs 18 = .ok (.iload_n 1, 1) := by decide +kernel
theorem dX9_needs_19 : decode cX9_needs 19 = .ok (.iaload, 1) := by decide +kernel
theorem dX9_needs_20 : decode cX9_needs 20 = .ok (.iaload, 1) := by decide +kernel
theorem dX9_needs_21 : decode cX9_needs 21 = .ok (.iload_n 2, 1) := by decide +kernel
theorem dX9_needs_22 : decode cX9_needs 22 = .ok (.if_icmp .ge 17, 3) := by decide +kernel
theorem dX9_needs_25 : decode cX9_needs 25 = .ok (.aload_n 0, 1) := by decide +kernel
theorem dX9_needs_26 : decode cX9_needs 26 = .ok (.getfield 31, 3) := by decide +kernel
theorem dX9_needs_29 : decode cX9_needs 29 = .ok (.aload_n 0, 1) := by decide +kernel
theorem dX9_needs_30 : decode cX9_needs 30 = .ok (.getfield 16, 3) := by decide +kernel
theorem dX9_needs_33 : decode cX9_needs 33 = .ok (.iload_n 1, 1) := by decide +kernel
theorem dX9_needs_34 : decode cX9_needs 34 = .ok (.iaload, 1) := by decide +kernel
theorem dX9_needs_35 : decode cX9_needs 35 = .ok (.iaload, 1) := by decide +kernel
theorem dX9_needs_36 : decode cX9_needs 36 = .ok (.goto 4, 3) := by decide +kernel
theorem dX9_needs_39 : decode cX9_needs 39 = .ok (.iload_n 2, 1) := by decide +kernel
theorem dX9_needs_40 : decode cX9_needs 40 = .ok (.ireturn, 1) := by decide +kernel
theorem dX9_isTurned_0 : decode cX9_isTurned 0 = .ok (.aload_n 0, 1) := by decide +kernel
theorem dX9_isTurned_1 : decode cX9_isTurned 1 = .ok (.getfield 34, 3) := by decide +kernel
theorem dX9_isTurned_4 : decode cX9_isTurned 4 = .ok (.aload_n 0, 1) := by decide +kernel
theorem dX9_isTurned_5 : decode cX9_isTurned 5 = .ok (.getfield 16, 3) := by decide +kernel
theorem dX9_isTurned_8 : decode cX9_isTurned 8 = .ok (.iload_n 1, 1) := by decide +kernel
theorem dX9_isTurned_9 : decode cX9_isTurned 9 = .ok (.iaload, 1) := by decide +kernel
theorem dX9_isTurned_10 : decode cX9_isTurned 10 = .ok (.iaload, 1) := by decide +kernel
theorem dX9_isTurned_11 : decode cX9_isTurned 11 = .ok (.iconst 1, 1) := by decide +kernel
theorem dX9_isTurned_12 : decode cX9_isTurned 12 = .ok (.if_icmp .ne 22, 3) := by decide +kernel
theorem dX9_isTurned_15 : decode cX9_isTurned 15 = .ok (.aload_n 0, 1) := by decide +kernel
theorem dX9_isTurned_16 : decode cX9_isTurned 16 = .ok (.getfield 52, 3) := by decide +kernel
theorem dX9_isTurned_19 : decode cX9_isTurned 19 = .ok (.iload_n 2, 1) := by decide +kernel
theorem dX9_isTurned_20 : decode cX9_isTurned 20 = .ok (.iaload, 1) := by decide +kernel
theorem dX9_isTurned_21 : decode cX9_isTurned 21 = .ok (.aload_n 0, 1) := by decide +kernel
theorem dX9_isTurned_22 : decode cX9_isTurned 22 = .ok (.getfield 22, 3) := by decide +kernel
theorem dX9_isTurned_25 : decode cX9_isTurned 25 = .ok (.iload_n 1, 1) := by decide +kernel
theorem dX9_isTurned_26 : decode cX9_isTurned 26 = .ok (.iaload, 1) := by decide +kernel
theorem dX9_isTurned_27 : decode cX9_isTurned 27 = .ok (.if_icmp .eq 7, 3) := by decide +kernel
theorem dX9_isTurned_30 : decode cX9_isTurned 30 = .ok (.iconst 1, 1) := by decide +kernel
theorem dX9_isTurned_31 : decode cX9_isTurned 31 = .ok (.goto 4, 3) := by decide +kernel
theorem dX9_isTurned_34 : decode cX9_isTurned 34 = .ok (.iconst 0, 1) := by decide +kernel
theorem dX9_isTurned_35 : decode cX9_isTurned 35 = .ok (.ireturn, 1) := by decide +kernel
theorem dX9_comesOf_0 : decode cX9_comesOf 0 = .ok (.aload_n 0, 1) := by decide +kernel
theorem dX9_comesOf_1 : decode cX9_comesOf 1 = .ok (.iload_n 1, 1) := by decide +kernel
theorem dX9_comesOf_2 : decode cX9_comesOf 2 = .ok (.iload_n 2, 1) := by decide +kernel
theorem dX9_comesOf_3 : decode cX9_comesOf 3 = .ok (.invokevirtual 167, 3) := by decide +kernel
theorem dX9_comesOf_6 : decode cX9_comesOf 6 = .ok (.ifCond .eq 15, 3) := by decide +kernel
theorem dX9_comesOf_9 : decode cX9_comesOf 9 = .ok (.aload_n 0, 1) := by decide +kernel
theorem dX9_comesOf_10 : decode cX9_comesOf 10 = .ok (.getfield 55, 3) := by decide +kernel
theorem dX9_comesOf_13 : decode cX9_comesOf 13 = .ok (.iconst 1, 1) := by decide +kernel
theorem dX9_comesOf_14 : decode cX9_comesOf 14 = .ok (.iaload, 1) := by decide +kernel
theorem dX9_comesOf_15 : decode cX9_comesOf 15 = .ok (.ifCond .ne 6, 3) := by decide +kernel
theorem dX9_comesOf_18 : decode cX9_comesOf 18 = .ok (.bipush (-3), 2) := by decide +kernel
theorem dX9_comesOf_20 : decode cX9_comesOf 20 = .ok (.ireturn, 1) := by decide +kernel
theorem dX9_comesOf_21 : decode cX9_comesOf 21 = .ok (.iconst 0, 1) := by decide +kernel
theorem dX9_comesOf_22 : decode cX9_comesOf 22 = .ok (.istore_n 3, 1) := by decide +kernel
theorem dX9_comesOf_23 : decode cX9_comesOf 23 = .ok (.aload_n 0, 1) := by decide +kernel
theorem dX9_comesOf_24 : decode cX9_comesOf 24 = .ok (.iload_n 1, 1) := by decide +kernel
theorem dX9_comesOf_25 : decode cX9_comesOf 25 = .ok (.invokevirtual 170, 3) := by decide +kernel
theorem dX9_comesOf_28 : decode cX9_comesOf 28 = .ok (.istore 4, 2) := by decide +kernel
theorem dX9_comesOf_30 : decode cX9_comesOf 30 = .ok (.iload 4, 2) := by decide +kernel
theorem dX9_comesOf_32 : decode cX9_comesOf 32 = .ok (.ifCond .le 133, 3) := by decide +kernel
theorem dX9_comesOf_35 : decode cX9_comesOf 35 = .ok (.iconst (-1), 1) := by decide +kernel
theorem dX9_comesOf_36 : decode cX9_comesOf 36 = .ok (.istore 5, 2) := by decide +kernel
theorem dX9_comesOf_38 : decode cX9_comesOf 38 = .ok (.iconst 0, 1) := by decide +kernel
theorem dX9_comesOf_39 : decode cX9_comesOf 39 = .ok (.istore 6, 2) := by decide +kernel
theorem dX9_comesOf_41 : decode cX9_comesOf 41 = .ok (.iload 6, 2) := by decide +kernel
theorem dX9_comesOf_43 : decode cX9_comesOf 43 = .ok (.bipush 8, 2) := by decide +kernel
theorem dX9_comesOf_45 : decode cX9_comesOf 45 = .ok (.if_icmp .ge 98, 3) := by decide +kernel
theorem dX9_comesOf_48 : decode cX9_comesOf 48 = .ok (.aload_n 0, 1) := by decide +kernel
theorem dX9_comesOf_49 : decode cX9_comesOf 49 = .ok (.getfield 28, 3) := by decide +kernel
theorem dX9_comesOf_52 : decode cX9_comesOf 52 = .ok (.iload_n 1, 1) := by decide +kernel
theorem dX9_comesOf_53 : decode cX9_comesOf 53 = .ok (.iaload, 1) := by decide +kernel
theorem dX9_comesOf_54 : decode cX9_comesOf 54 = .ok (.iload 6, 2) := by decide +kernel
theorem dX9_comesOf_56 : decode cX9_comesOf 56 = .ok (.invokestatic 119, 3) := by decide +kernel
theorem dX9_comesOf_59 : decode cX9_comesOf 59 = .ok (.ifCond .eq 38, 3) := by decide +kernel
theorem dX9_comesOf_62 : decode cX9_comesOf 62 = .ok (.iload_n 3, 1) := by decide +kernel
theorem dX9_comesOf_63 : decode cX9_comesOf 63 = .ok (.iload 6, 2) := by decide +kernel
theorem dX9_comesOf_65 : decode cX9_comesOf 65 = .ok (.invokestatic 119, 3) := by decide +kernel
theorem dX9_comesOf_68 : decode cX9_comesOf 68 = .ok (.ifCond .ne 29, 3) := by decide +kernel
theorem dX9_comesOf_71 : decode cX9_comesOf 71 = .ok (.aload_n 0, 1) := by decide +kernel
theorem dX9_comesOf_72 : decode cX9_comesOf 72 = .ok (.getfield 40, 3) := by decide +kernel
theorem dX9_comesOf_75 : decode cX9_comesOf 75 = .ok (.iload 6, 2) := by decide +kernel
theorem dX9_comesOf_77 : decode cX9_comesOf 77 = .ok (.iaload, 1) := by decide +kernel
theorem dX9_comesOf_78 : decode cX9_comesOf 78 = .ok (.iload_n 2, 1) := by decide +kernel
theorem dX9_comesOf_79 : decode cX9_comesOf 79 = .ok (.if_icmp .gt 18, 3) := by decide +kernel
theorem dX9_comesOf_82 : decode cX9_comesOf 82 = .ok (.iload_n 2, 1) := by decide +kernel
theorem dX9_comesOf_83 : decode cX9_comesOf 83 = .ok (.aload_n 0, 1) := by decide +kernel
theorem dX9_comesOf_84 : decode cX9_comesOf 84 = .ok (.getfield 43, 3) := by decide +kernel
theorem dX9_comesOf_87 : decode cX9_comesOf 87 = .ok (.iload 6, 2) := by decide +kernel
theorem dX9_comesOf_89 : decode cX9_comesOf 89 = .ok (.iaload, 1) := by decide +kernel
theorem dX9_comesOf_90 : decode cX9_comesOf 90 = .ok (.if_icmp .ge 7, 3) := by decide +kernel
theorem dX9_comesOf_93 : decode cX9_comesOf 93 = .ok (.iconst 1, 1) := by decide +kernel
theorem dX9_comesOf_94 : decode cX9_comesOf 94 = .ok (.goto 4, 3) := by decide +kernel
theorem dX9_comesOf_97 : decode cX9_comesOf 97 = .ok (.iconst 0, 1) := by decide +kernel
theorem dX9_comesOf_98 : decode cX9_comesOf 98 = .ok (.istore 7, 2) := by decide +kernel
theorem dX9_comesOf_100 : decode cX9_comesOf 100 = .ok (.iload 7, 2) := by decide +kernel
theorem dX9_comesOf_102 : decode cX9_comesOf 102 = .ok (.ifCond .eq 31, 3) := by decide +kernel
theorem dX9_comesOf_105 : decode cX9_comesOf 105 = .ok (.iload 5, 2) := by decide +kernel
theorem dX9_comesOf_107 : decode cX9_comesOf 107 = .ok (.iconst (-1), 1) := by decide +kernel
theorem dX9_comesOf_108 : decode cX9_comesOf 108 = .ok (.if_icmp .eq 20, 3) := by decide +kernel
theorem dX9_comesOf_111 : decode cX9_comesOf 111 = .ok (.aload_n 0, 1) := by decide +kernel
theorem dX9_comesOf_112 : decode cX9_comesOf 112 = .ok (.getfield 46, 3) := by decide +kernel
theorem dX9_comesOf_115 : decode cX9_comesOf 115 = .ok (.iload 6, 2) := by decide +kernel
theorem dX9_comesOf_117 : decode cX9_comesOf 117 = .ok (.iaload, 1) := by decide +kernel
theorem dX9_comesOf_118 : decode cX9_comesOf 118 = .ok (.aload_n 0, 1) := by decide +kernel
theorem dX9_comesOf_119 : decode cX9_comesOf 119 = .ok (.getfield 46, 3) := by decide +kernel
theorem dX9_comesOf_122 : decode cX9_comesOf 122 = .ok (.iload 5, 2) := by decide +kernel
theorem dX9_comesOf_124 : decode cX9_comesOf 124 = .ok (.iaload, 1) := by decide +kernel
theorem dX9_comesOf_125 : decode cX9_comesOf 125 = .ok (.if_icmp .ge 8, 3) := by decide +kernel
theorem dX9_comesOf_128 : decode cX9_comesOf 128 = .ok (.iload 6, 2) := by decide +kernel
theorem dX9_comesOf_130 : decode cX9_comesOf 130 = .ok (.goto 5, 3) := by decide +kernel
theorem dX9_comesOf_133 : decode cX9_comesOf 133 = .ok (.iload 5, 2) := by decide +kernel
theorem dX9_comesOf_135 : decode cX9_comesOf 135 = .ok (.istore 5, 2) := by decide +kernel
theorem dX9_comesOf_137 : decode cX9_comesOf 137 = .ok (.iinc 6 1, 3) := by decide +kernel
theorem dX9_comesOf_140 : decode cX9_comesOf 140 = .ok (.goto (-99), 3) := by decide +kernel
theorem dX9_comesOf_143 : decode cX9_comesOf 143 = .ok (.iload 5, 2) := by decide +kernel
theorem dX9_comesOf_145 : decode cX9_comesOf 145 = .ok (.iconst (-1), 1) := by decide +kernel
theorem dX9_comesOf_146 : decode cX9_comesOf 146 = .ok (.if_icmp .ne 6, 3) := by decide +kernel
theorem dX9_comesOf_149 : decode cX9_comesOf 149 = .ok (.bipush (-3), 2) := by decide +kernel
theorem dX9_comesOf_151 : decode cX9_comesOf 151 = .ok (.ireturn, 1) := by decide +kernel
theorem dX9_comesOf_152 : decode cX9_comesOf 152 = .ok (.iload_n 3, 1) := by decide +kernel
theorem dX9_comesOf_153 : decode cX9_comesOf 153 = .ok (.iconst 1, 1) := by decide +kernel
theorem dX9_comesOf_154 : decode cX9_comesOf 154 = .ok (.iload 5, 2) := by decide +kernel
theorem dX9_comesOf_156 : decode cX9_comesOf 156 = .ok (.ishl, 1) := by decide +kernel
theorem dX9_comesOf_157 : decode cX9_comesOf 157 = .ok (.ior, 1) := by decide +kernel
theorem dX9_comesOf_158 : decode cX9_comesOf 158 = .ok (.istore_n 3, 1) := by decide +kernel
theorem dX9_comesOf_159 : decode cX9_comesOf 159 = .ok (.iinc 4 (-1), 3) := by decide +kernel
theorem dX9_comesOf_162 : decode cX9_comesOf 162 = .ok (.goto (-132), 3) := by decide +kernel
theorem dX9_comesOf_165 : decode cX9_comesOf 165 = .ok (.iload_n 3, 1) := by decide +kernel
theorem dX9_comesOf_166 : decode cX9_comesOf 166 = .ok (.ireturn, 1) := by decide +kernel
theorem dX9_canOf_0 : decode cX9_canOf 0 = .ok (.aload_n 0, 1) := by decide +kernel
theorem dX9_canOf_1 : decode cX9_canOf 1 = .ok (.iload_n 1, 1) := by decide +kernel
theorem dX9_canOf_2 : decode cX9_canOf 2 = .ok (.iload_n 2, 1) := by decide +kernel
theorem dX9_canOf_3 : decode cX9_canOf 3 = .ok (.invokevirtual 173, 3) := by decide +kernel
theorem dX9_canOf_6 : decode cX9_canOf 6 = .ok (.bipush (-3), 2) := by decide +kernel
theorem dX9_canOf_8 : decode cX9_canOf 8 = .ok (.if_icmp .ne 7, 3) := by decide +kernel
theorem dX9_canOf_11 : decode cX9_canOf 11 = .ok (.iconst 0, 1) := by decide +kernel
theorem dX9_canOf_12 : decode cX9_canOf 12 = .ok (.goto 4, 3) := by decide +kernel
theorem dX9_canOf_15 : decode cX9_canOf 15 = .ok (.iconst 1, 1) := by decide +kernel
theorem dX9_canOf_16 : decode cX9_canOf 16 = .ok (.ireturn, 1) := by decide +kernel
theorem dX9_can_0 : decode cX9_can 0 = .ok (.aload_n 0, 1) := by decide +kernel
theorem dX9_can_1 : decode cX9_can 1 = .ok (.iload_n 1, 1) := by decide +kernel
theorem dX9_can_2 : decode cX9_can 2 = .ok (.invokevirtual 142, 3) := by decide +kernel
theorem dX9_can_5 : decode cX9_can 5 = .ok (.ifCond .eq 19, 3) := by decide +kernel
theorem dX9_can_8 : decode cX9_can 8 = .ok (.iload_n 2, 1) := by decide +kernel
theorem dX9_can_9 : decode cX9_can 9 = .ok (.invokestatic 155, 3) := by decide +kernel
theorem dX9_can_12 : decode cX9_can 12 = .ok (.ifCond .eq 12, 3) := by decide +kernel
theorem dX9_can_15 : decode cX9_can 15 = .ok (.aload_n 0, 1) := by decide +kernel
theorem dX9_can_16 : decode cX9_can 16 = .ok (.iload_n 1, 1) := by decide +kernel
theorem dX9_can_17 : decode cX9_can 17 = .ok (.iload_n 2, 1) := by decide +kernel
theorem dX9_can_18 : decode cX9_can 18 = .ok (.invokevirtual 176, 3) := by decide +kernel
theorem dX9_can_21 : decode cX9_can 21 = .ok (.goto 5, 3) := by decide +kernel
theorem dX9_can_24 : decode cX9_can 24 = .ok (.bipush (-2), 2) := by decide +kernel
theorem dX9_can_26 : decode cX9_can 26 = .ok (.ireturn, 1) := by decide +kernel
theorem dX9_hoursOf_0 : decode cX9_hoursOf 0 = .ok (.iconst 0, 1) := by decide +kernel
theorem dX9_hoursOf_1 : decode cX9_hoursOf 1 = .ok (.istore_n 2, 1) := by decide +kernel
theorem dX9_hoursOf_2 : decode cX9_hoursOf 2 = .ok (.iconst 0, 1) := by decide +kernel
theorem dX9_hoursOf_3 : decode cX9_hoursOf 3 = .ok (.istore_n 3, 1) := by decide +kernel
theorem dX9_hoursOf_4 : decode cX9_hoursOf 4 = .ok (.iload_n 3, 1) := by decide +kernel
theorem dX9_hoursOf_5 : decode cX9_hoursOf 5 = .ok (.bipush 8, 2) := by decide +kernel
theorem dX9_hoursOf_7 : decode cX9_hoursOf 7 = .ok (.if_icmp .ge 20, 3) := by decide +kernel
theorem dX9_hoursOf_10 : decode cX9_hoursOf 10 = .ok (.iload_n 2, 1) := by decide +kernel
theorem dX9_hoursOf_11 : decode cX9_hoursOf 11 = .ok (.aload_n 0, 1) := by decide +kernel
theorem dX9_hoursOf_12 : decode cX9_hoursOf 12 = .ok (.iload_n 1, 1) := by decide +kernel
theorem dX9_hoursOf_13 : decode cX9_hoursOf 13 = .ok (.iload_n 3, 1) := by decide +kernel
theorem dX9_hoursOf_14 : decode cX9_hoursOf 14 = .ok (.invokevirtual 176, 3) := by decide +kernel
theorem dX9_hoursOf_17 : decode cX9_hoursOf 17 = .ok (.iload_n 3, 1) := by decide +kernel
theorem dX9_hoursOf_18 : decode cX9_hoursOf 18 = .ok (.ishl, 1) := by decide +kernel
theorem dX9_hoursOf_19 : decode cX9_hoursOf 19 = .ok (.ior, 1) := by decide +kernel
theorem dX9_hoursOf_20 : decode cX9_hoursOf 20 = .ok (.istore_n 2, 1) := by decide +kernel
theorem dX9_hoursOf_21 : decode cX9_hoursOf 21 = .ok (.iinc 3 1, 3) := by decide +kernel
theorem dX9_hoursOf_24 : decode cX9_hoursOf 24 = .ok (.goto (-20), 3) := by decide +kernel
theorem dX9_hoursOf_27 : decode cX9_hoursOf 27 = .ok (.iload_n 2, 1) := by decide +kernel
theorem dX9_hoursOf_28 : decode cX9_hoursOf 28 = .ok (.ireturn, 1) := by decide +kernel
theorem dX9_hours_0 : decode cX9_hours 0 = .ok (.aload_n 0, 1) := by decide +kernel
theorem dX9_hours_1 : decode cX9_hours 1 = .ok (.iload_n 1, 1) := by decide +kernel
theorem dX9_hours_2 : decode cX9_hours 2 = .ok (.invokevirtual 142, 3) := by decide +kernel
theorem dX9_hours_5 : decode cX9_hours 5 = .ok (.ifCond .eq 11, 3) := by decide +kernel
theorem dX9_hours_8 : decode cX9_hours 8 = .ok (.aload_n 0, 1) := by decide +kernel
theorem dX9_hours_9 : decode cX9_hours 9 = .ok (.iload_n 1, 1) := by decide +kernel
theorem dX9_hours_10 : decode cX9_hours 10 = .ok (.invokevirtual 179, 3) := by decide +kernel
theorem dX9_hours_13 : decode cX9_hours 13 = .ok (.goto 5, 3) := by decide +kernel
theorem dX9_hours_16 : decode cX9_hours 16 = .ok (.bipush (-2), 2) := by decide +kernel
theorem dX9_hours_18 : decode cX9_hours 18 = .ok (.ireturn, 1) := by decide +kernel
theorem dX9_comes_0 : decode cX9_comes 0 = .ok (.aload_n 0, 1) := by decide +kernel
theorem dX9_comes_1 : decode cX9_comes 1 = .ok (.iload_n 1, 1) := by decide +kernel
theorem dX9_comes_2 : decode cX9_comes 2 = .ok (.invokevirtual 142, 3) := by decide +kernel
theorem dX9_comes_5 : decode cX9_comes 5 = .ok (.ifCond .eq 19, 3) := by decide +kernel
theorem dX9_comes_8 : decode cX9_comes 8 = .ok (.iload_n 2, 1) := by decide +kernel
theorem dX9_comes_9 : decode cX9_comes 9 = .ok (.invokestatic 155, 3) := by decide +kernel
theorem dX9_comes_12 : decode cX9_comes 12 = .ok (.ifCond .eq 12, 3) := by decide +kernel
theorem dX9_comes_15 : decode cX9_comes 15 = .ok (.aload_n 0, 1) := by decide +kernel
theorem dX9_comes_16 : decode cX9_comes 16 = .ok (.iload_n 1, 1) := by decide +kernel
theorem dX9_comes_17 : decode cX9_comes 17 = .ok (.iload_n 2, 1) := by decide +kernel
theorem dX9_comes_18 : decode cX9_comes 18 = .ok (.invokevirtual 173, 3) := by decide +kernel
theorem dX9_comes_21 : decode cX9_comes 21 = .ok (.goto 5, 3) := by decide +kernel
theorem dX9_comes_24 : decode cX9_comes 24 = .ok (.bipush (-2), 2) := by decide +kernel
theorem dX9_comes_26 : decode cX9_comes 26 = .ok (.ireturn, 1) := by decide +kernel
theorem dX9_pricesOf_0 : decode cX9_pricesOf 0 = .ok (.iconst 0, 1) := by decide +kernel
theorem dX9_pricesOf_1 : decode cX9_pricesOf 1 = .ok (.istore_n 2, 1) := by decide +kernel
theorem dX9_pricesOf_2 : decode cX9_pricesOf 2 = .ok (.iconst 0, 1) := by decide +kernel
theorem dX9_pricesOf_3 : decode cX9_pricesOf 3 = .ok (.istore_n 3, 1) := by decide +kernel
theorem dX9_pricesOf_4 : decode cX9_pricesOf 4 = .ok (.iload_n 3, 1) := by decide +kernel
theorem dX9_pricesOf_5 : decode cX9_pricesOf 5 = .ok (.bipush 8, 2) := by decide +kernel
theorem dX9_pricesOf_7 : decode cX9_pricesOf 7 = .ok (.if_icmp .ge 30, 3) := by decide +kernel
theorem dX9_pricesOf_10 : decode cX9_pricesOf 10 = .ok (.iload_n 2, 1) := by decide +kernel
theorem dX9_pricesOf_11 : decode cX9_pricesOf 11 = .ok (.iload_n 1, 1) := by decide +kernel
theorem dX9_pricesOf_12 : decode cX9_pricesOf 12 = .ok (.iload_n 3, 1) := by decide +kernel
theorem dX9_pricesOf_13 : decode cX9_pricesOf 13 = .ok (.invokestatic 119, 3) := by decide +kernel
theorem dX9_pricesOf_16 : decode cX9_pricesOf 16 = .ok (.ifCond .eq 12, 3) := by decide +kernel
theorem dX9_pricesOf_19 : decode cX9_pricesOf 19 = .ok (.aload_n 0, 1) := by decide +kernel
theorem dX9_pricesOf_20 : decode cX9_pricesOf 20 = .ok (.getfield 46, 3) := by decide +kernel
theorem dX9_pricesOf_23 : decode cX9_pricesOf 23 = .ok (.iload_n 3, 1) := by decide +kernel
theorem dX9_pricesOf_24 : decode cX9_pricesOf 24 = .ok (.iaload, 1) := by decide +kernel
theorem dX9_pricesOf_25 : decode cX9_pricesOf 25 = .ok (.goto 4, 3) := by decide +kernel
theorem dX9_pricesOf_28 : decode cX9_pricesOf 28 = .ok (.iconst 0, 1) := by decide +kernel
theorem dX9_pricesOf_29 : decode cX9_pricesOf 29 = .ok (.iadd, 1) := by decide +kernel
theorem dX9_pricesOf_30 : decode cX9_pricesOf 30 = .ok (.istore_n 2, 1) := by decide +kernel
theorem dX9_pricesOf_31 : decode cX9_pricesOf 31 = .ok (.iinc 3 1, 3) := by decide +kernel
theorem dX9_pricesOf_34 : decode cX9_pricesOf 34 = .ok (.goto (-30), 3) := by decide +kernel
theorem dX9_pricesOf_37 : decode cX9_pricesOf 37 = .ok (.iload_n 2, 1) := by decide +kernel
theorem dX9_pricesOf_38 : decode cX9_pricesOf 38 = .ok (.ireturn, 1) := by decide +kernel
theorem dX9_costsOf_0 : decode cX9_costsOf 0 = .ok (.aload_n 0, 1) := by decide +kernel
theorem dX9_costsOf_1 : decode cX9_costsOf 1 = .ok (.iload_n 1, 1) := by decide +kernel
theorem dX9_costsOf_2 : decode cX9_costsOf 2 = .ok (.iload_n 2, 1) := by decide +kernel
theorem dX9_costsOf_3 : decode cX9_costsOf 3 = .ok (.invokevirtual 173, 3) := by decide +kernel
theorem dX9_costsOf_6 : decode cX9_costsOf 6 = .ok (.istore_n 3, 1) := by decide +kernel
theorem dX9_costsOf_7 : decode cX9_costsOf 7 = .ok (.iload_n 3, 1) := by decide +kernel
theorem dX9_costsOf_8 : decode cX9_costsOf 8 = .ok (.bipush (-3), 2) := by decide +kernel
theorem dX9_costsOf_10 : decode cX9_costsOf 10 = .ok (.if_icmp .ne 8, 3) := by decide +kernel
theorem dX9_costsOf_13 : decode cX9_costsOf 13 = .ok (.bipush (-3), 2) := by decide +kernel
theorem dX9_costsOf_15 : decode cX9_costsOf 15 = .ok (.goto 28, 3) := by decide +kernel
theorem dX9_costsOf_18 : decode cX9_costsOf 18 = .ok (.aload_n 0, 1) := by decide +kernel
theorem dX9_costsOf_19 : decode cX9_costsOf 19 = .ok (.iload_n 3, 1) := by decide +kernel
theorem dX9_costsOf_20 : decode cX9_costsOf 20 = .ok (.invokevirtual 182, 3) := by decide +kernel
theorem dX9_costsOf_23 : decode cX9_costsOf 23 = .ok (.aload_n 0, 1) := by decide +kernel
theorem dX9_costsOf_24 : decode cX9_costsOf 24 = .ok (.iload_n 1, 1) := by decide +kernel
theorem dX9_costsOf_25 : decode cX9_costsOf 25 = .ok (.iload_n 2, 1) := by decide +kernel
theorem dX9_costsOf_26 : decode cX9_costsOf 26 = .ok (.invokevirtual 167, 3) := by decide +kernel
theorem dX9_costsOf_29 : decode cX9_costsOf 29 = .ok (.ifCond .eq 12, 3) := by decide +kernel
theorem dX9_costsOf_32 : decode cX9_costsOf 32 = .ok (.aload_n 0, 1) := by decide +kernel
theorem dX9_costsOf_33 : decode cX9_costsOf 33 = .ok (.getfield 55, 3) := by decide +kernel
theorem dX9_costsOf_36 : decode cX9_costsOf 36 = .ok (.iconst 0, 1) := by decide +kernel
theorem dX9_costsOf_37 : decode cX9_costsOf 37 = .ok (.iaload, 1) := by decide +kernel
theorem dX9_costsOf_38 : decode cX9_costsOf 38 = .ok (.goto 4, 3) := by decide +kernel
theorem dX9_costsOf_41 : decode cX9_costsOf 41 = .ok (.iconst 0, 1) := by decide +kernel
theorem dX9_costsOf_42 : decode cX9_costsOf 42 = .ok (.iadd, 1) := by decide +kernel
theorem dX9_costsOf_43 : decode cX9_costsOf 43 = .ok (.ireturn, 1) := by decide +kernel
theorem dX9_costs_0 : decode cX9_costs 0 = .ok (.aload_n 0, 1) := by decide +kernel
theorem dX9_costs_1 : decode cX9_costs 1 = .ok (.iload_n 1, 1) := by decide +kernel
theorem dX9_costs_2 : decode cX9_costs 2 = .ok (.invokevirtual 142, 3) := by decide +kernel
theorem dX9_costs_5 : decode cX9_costs 5 = .ok (.ifCond .eq 19, 3) := by decide +kernel
theorem dX9_costs_8 : decode cX9_costs 8 = .ok (.iload_n 2, 1) := by decide +kernel
theorem dX9_costs_9 : decode cX9_costs 9 = .ok (.invokestatic 155, 3) := by decide +kernel
theorem dX9_costs_12 : decode cX9_costs 12 = .ok (.ifCond .eq 12, 3) := by decide +kernel
theorem dX9_costs_15 : decode cX9_costs 15 = .ok (.aload_n 0, 1) := by decide +kernel
theorem dX9_costs_16 : decode cX9_costs 16 = .ok (.iload_n 1, 1) := by decide +kernel
theorem dX9_costs_17 : decode cX9_costs 17 = .ok (.iload_n 2, 1) := by decide +kernel
theorem dX9_costs_18 : decode cX9_costs 18 = .ok (.invokevirtual 185, 3) := by decide +kernel
theorem dX9_costs_21 : decode cX9_costs 21 = .ok (.goto 5, 3) := by decide +kernel
theorem dX9_costs_24 : decode cX9_costs 24 = .ok (.bipush (-2), 2) := by decide +kernel
theorem dX9_costs_26 : decode cX9_costs 26 = .ok (.ireturn, 1) := by decide +kernel
theorem dX9_costTogether_0 : decode cX9_costTogether 0 = .ok (.iconst 0, 1) := by decide +kernel
theorem dX9_costTogether_1 : decode cX9_costTogether 1 = .ok (.istore_n 3, 1) := by decide +kernel
theorem dX9_costTogether_2 : decode cX9_costTogether 2 = .ok (.iconst 0, 1) := by decide +kernel
theorem dX9_costTogether_3 : decode cX9_costTogether 3 = .ok (.istore 4, 2) := by decide +kernel
theorem dX9_costTogether_5 : decode cX9_costTogether 5 = .ok (.iconst 0, 1) := by decide +kernel
theorem dX9_costTogether_6 : decode cX9_costTogether 6 = .ok (.istore 5, 2) := by decide +kernel
theorem dX9_costTogether_8 : decode cX9_costTogether 8 = .ok (.iconst 0, 1) := by decide +kernel
theorem dX9_costTogether_9 : decode cX9_costTogether 9 = .ok (.istore 6, 2) := by decide +kernel
theorem dX9_costTogether_11 : decode cX9_costTogether 11 = .ok (.iload 6, 2) := by decide +kernel
theorem dX9_costTogether_13 : decode cX9_costTogether 13 = .ok (.aload_n 0, 1) := by decide +kernel
theorem dX9_costTogether_14 : decode cX9_costTogether 14 = .ok (.getfield 107, 3) := by decide +kernel
theorem dX9_costTogether_17 : decode cX9_costTogether 17 = .ok (.if_icmp .ge 241, 3) := by decide +kernel
theorem dX9_costTogether_20 : decode cX9_costTogether 20 = .ok (.iload_n 1, 1) := by decide +kernel
theorem dX9_costTogether_21 : decode cX9_costTogether 21 = .ok (.iload 6, 2) := by decide +kernel
theorem dX9_costTogether_23 : decode cX9_costTogether 23 = .ok (.invokestatic 119, 3) := by decide +kernel
theorem dX9_costTogether_26 : decode cX9_costTogether 26 = .ok (.ifCond .eq 226, 3) := by decide +kernel
theorem dX9_costTogether_29 : decode cX9_costTogether 29 = .ok (.aload_n 0, 1) := by decide +kernel
theorem dX9_costTogether_30 : decode cX9_costTogether 30 = .ok (.iload 6, 2) := by decide +kernel
theorem dX9_costTogether_32 : decode cX9_costTogether 32 = .ok (.iload_n 2, 1) := by decide +kernel
theorem dX9_costTogether_33 : decode cX9_costTogether 33 = .ok (.invokevirtual 173, 3) := by decide +kernel
theorem dX9_costTogether_36 : decode cX9_costTogether 36 = .ok (.istore 7, 2) := by decide +kernel
theorem dX9_costTogether_38 : decode cX9_costTogether 38 = .ok (.iload 7, 2) := by decide +kernel
theorem dX9_costTogether_40 : decode cX9_costTogether 40 = .ok (.bipush (-3), 2) := by decide +kernel
theorem dX9_costTogether_42 : decode cX9_costTogether 42 = .ok (.if_icmp .eq 10, 3) := by decide +kernel
theorem dX9_costTogether_45 : decode cX9_costTogether 45 = .ok (.iload 7, 2) := by decide +kernel
theorem dX9_costTogether_47 : decode cX9_costTogether 47 = .ok (.iload_n 3, 1) := by decide +kernel
theorem dX9_costTogether_48 : decode cX9_costTogether 48 = .ok (.iand, 1) := by decide +kernel
theorem dX9_costTogether_49 : decode cX9_costTogether 49 = .ok (.ifCond .eq 6, 3) := by decide +kernel
theorem dX9_costTogether_52 : decode cX9_costTogether 52 = .ok (.ldc 188, 2) := by decide +kernel
theorem dX9_costTogether_54 : decode cX9_costTogether 54 = .ok (.ireturn, 1) := by decide +kernel
theorem dX9_costTogether_55 : decode cX9_costTogether 55 = .ok (.iload_n 3, 1) := by decide +kernel
theorem dX9_costTogether_56 : decode cX9_costTogether 56 = .ok (.iload 7, 2) := by decide +kernel
theorem dX9_costTogether_58 : decode cX9_costTogether 58 = .ok (.ior, 1) := by decide +kernel
theorem dX9_costTogether_59 : decode cX9_costTogether 59 = .ok (.istore_n 3, 1) := by decide +kernel
theorem dX9_costTogether_60 : decode cX9_costTogether 60 = .ok (.iload 4, 2) := by decide +kernel
theorem dX9_costTogether_62 : decode cX9_costTogether 62 = .ok (.aload_n 0, 1) := by decide +kernel
theorem dX9_costTogether_63 : decode cX9_costTogether 63 = .ok (.iload 7, 2) := by decide +kernel
theorem dX9_costTogether_65 : decode cX9_costTogether 65 = .ok (.invokevirtual 182, 3) := by decide +kernel
theorem dX9_costTogether_68 : decode cX9_costTogether 68 = .ok (.iadd, 1) := by decide +kernel
theorem dX9_costTogether_69 : decode cX9_costTogether 69 = .ok (.istore 4, 2) := by decide +kernel
theorem dX9_costTogether_71 : decode cX9_costTogether 71 = .ok (.iload 5, 2) := by decide +kernel
theorem dX9_costTogether_73 : decode cX9_costTogether 73 = .ok (.ifCond .ne 13, 3) := by decide +kernel
theorem dX9_costTogether_76 : decode cX9_costTogether 76 = .ok (.aload_n 0, 1) := by decide +kernel
theorem dX9_costTogether_77 : decode cX9_costTogether 77 = .ok (.iload 6, 2) := by decide +kernel
theorem dX9_costTogether_79 : decode cX9_costTogether 79 = .ok (.iload_n 2, 1) := by decide +kernel
theorem dX9_costTogether_80 : decode cX9_costTogether 80 = .ok (.invokevirtual 167, 3) := by decide +kernel
theorem dX9_costTogether_83 : decode cX9_costTogether 83 = .ok (.ifCond .eq 7, 3) := by decide +kernel
theorem dX9_costTogether_86 : decode cX9_costTogether 86 = .ok (.iconst 1, 1) := by decide +kernel
theorem dX9_costTogether_87 : decode cX9_costTogether 87 = .ok (.goto 4, 3) := by decide +kernel
theorem dX9_costTogether_90 : decode cX9_costTogether 90 = .ok (.iconst 0, 1) := by decide +kernel
theorem dX9_costTogether_91 : decode cX9_costTogether 91 = .ok (.istore 5, 2) := by decide +kernel
theorem dX9_costTogether_93 : decode cX9_costTogether 93 = .ok (.iconst 0, 1) := by decide +kernel
theorem dX9_costTogether_94 : decode cX9_costTogether 94 = .ok (.istore 8, 2) := by decide +kernel
theorem dX9_costTogether_96 : decode cX9_costTogether 96 = .ok (.iload 8, 2) := by decide +kernel
theorem dX9_costTogether_98 : decode cX9_costTogether 98 = .ok (.iload 6, 2) := by decide +kernel
theorem dX9_costTogether_100 : decode cX9_costTogether 100 = .ok (.if_icmp .ge 152, 3) := by decide +kernel
theorem dX9_costTogether_103 : decode cX9_costTogether 103 = .ok (.iload_n 1, 1) := by decide +kernel
theorem dX9_costTogether_104 : decode cX9_costTogether 104 = .ok (.iload 8, 2) := by decide +kernel
theorem dX9_costTogether_106 : decode cX9_costTogether 106 = .ok (.invokestatic 119, 3) := by decide +kernel
theorem dX9_costTogether_109 : decode cX9_costTogether 109 = .ok (.ifCond .eq 56, 3) := by decide +kernel
theorem dX9_costTogether_112 : decode cX9_costTogether 112 = .ok (.aload_n 0, 1) := by decide +kernel
theorem dX9_costTogether_113 : decode cX9_costTogether 113 = .ok (.getfield 37, 3) := by decide +kernel
theorem dX9_costTogether_116 : decode cX9_costTogether 116 = .ok (.aload_n 0, 1) := by decide +kernel
theorem dX9_costTogether_117 : decode cX9_costTogether 117 = .ok (.getfield 16, 3) := by decide +kernel
theorem dX9_costTogether_120 : decode cX9_costTogether 120 = .ok (.iload 6, 2) := by decide +kernel
theorem dX9_costTogether_122 : decode cX9_costTogether 122 = .ok (.iaload, 1) := by decide +kernel
theorem dX9_costTogether_123 : decode cX9_costTogether 123 = .ok (.iaload, 1) := by decide +kernel
theorem dX9_costTogether_124 : decode cX9_costTogether 124 = .ok (.iconst 1, 1) := by decide +kernel
theorem dX9_costTogether_125 : decode cX9_costTogether 125 = .ok (.if_icmp .ne 40, 3) := by decide +kernel
theorem dX9_costTogether_128 : decode cX9_costTogether 128 = .ok (.aload_n 0, 1) := by decide +kernel
theorem dX9_costTogether_129 : decode cX9_costTogether 129 = .ok (.getfield 37, 3) := by decide +kernel
theorem dX9_costTogether_132 : decode cX9_costTogether 132 = .ok (.aload_n 0, 1) := by decide +kernel
theorem dX9_costTogether_133 : decode cX9_costTogether 133 = .ok (.getfield 16, 3) := by decide +kernel
theorem dX9_costTogether_136 : decode cX9_costTogether 136 = .ok (.iload 8, 2) := by decide +kernel
theorem dX9_costTogether_138 : decode cX9_costTogether 138 = .ok (.iaload, 1) := by decide +kernel
theorem dX9_costTogether_139 : decode cX9_costTogether 139 = .ok (.iaload, 1) := by decide +kernel
theorem dX9_costTogether_140 : decode cX9_costTogether 140 = .ok (.iconst 1, 1) := by decide +kernel
theorem dX9_costTogether_141 : decode cX9_costTogether 141 = .ok (.if_icmp .ne 24, 3) := by decide +kernel
theorem dX9_costTogether_144 : decode cX9_costTogether 144 = .ok (.aload_n 0, 1) := by decide +kernel
theorem dX9_costTogether_145 : decode cX9_costTogether 145 = .ok (.getfield 19, 3) := by decide +kernel
theorem dX9_costTogether_148 : decode cX9_costTogether 148 = .ok (.iload 6, 2) := by decide +kernel
theorem dX9_costTogether_150 : decode cX9_costTogether 150 = .ok (.iaload, 1) := by decide +kernel
theorem dX9_costTogether_151 : decode cX9_costTogether 151 = .ok (.aload_n 0, 1) := by decide +kernel
theorem dX9_costTogether_152 : decode cX9_costTogether 152 = .ok (.getfield 19, 3) := by decide +kernel
theorem dX9_costTogether_155 : decode cX9_costTogether 155 = .ok (.iload 8, 2) := by decide +kernel
theorem dX9_costTogether_157 : decode cX9_costTogether 157 = .ok (.iaload, 1) := by decide +kernel
theorem dX9_costTogether_158 : decode cX9_costTogether 158 = .ok (.if_icmp .ne 7, 3) := by decide +kernel
theorem dX9_costTogether_161 : decode cX9_costTogether 161 = .ok (.iconst 1, 1) := by decide +kernel
theorem dX9_costTogether_162 : decode cX9_costTogether 162 = .ok (.goto 4, 3) := by decide +kernel
theorem dX9_costTogether_165 : decode cX9_costTogether 165 = .ok (.iconst 0, 1) := by decide +kernel
theorem dX9_costTogether_166 : decode cX9_costTogether 166 = .ok (.istore 9, 2) := by decide +kernel
theorem dX9_costTogether_168 : decode cX9_costTogether 168 = .ok (.iload_n 1, 1) := by decide +kernel
theorem dX9_costTogether_169 : decode cX9_costTogether 169 = .ok (.iload 8, 2) := by decide +kernel
theorem dX9_costTogether_171 : decode cX9_costTogether 171 = .ok (.invokestatic 119, 3) := by decide +kernel
theorem dX9_costTogether_174 : decode cX9_costTogether 174 = .ok (.ifCond .eq 56, 3) := by decide +kernel
theorem dX9_costTogether_177 : decode cX9_costTogether 177 = .ok (.aload_n 0, 1) := by decide +kernel
theorem dX9_costTogether_178 : decode cX9_costTogether 178 = .ok (.getfield 34, 3) := by decide +kernel
theorem dX9_costTogether_181 : decode cX9_costTogether 181 = .ok (.aload_n 0, 1) := by decide +kernel
theorem dX9_costTogether_182 : decode cX9_costTogether 182 = .ok (.getfield 16, 3) := by decide +kernel
theorem dX9_costTogether_185 : decode cX9_costTogether 185 = .ok (.iload 6, 2) := by decide +kernel
theorem dX9_costTogether_187 : decode cX9_costTogether 187 = .ok (.iaload, 1) := by decide +kernel
theorem dX9_costTogether_188 : decode cX9_costTogether 188 = .ok (.iaload, 1) := by decide +kernel
theorem dX9_costTogether_189 : decode cX9_costTogether 189 = .ok (.iconst 1, 1) := by decide +kernel
theorem dX9_costTogether_190 : decode cX9_costTogether 190 = .ok (.if_icmp .ne 40, 3) := by decide +kernel
theorem dX9_costTogether_193 : decode cX9_costTogether 193 = .ok (.aload_n 0, 1) := by decide +kernel
theorem dX9_costTogether_194 : decode cX9_costTogether 194 = .ok (.getfield 34, 3) := by decide +kernel
theorem dX9_costTogether_197 : decode cX9_costTogether 197 = .ok (.aload_n 0, 1) := by decide +kernel
theorem dX9_costTogether_198 : decode cX9_costTogether 198 = .ok (.getfield 16, 3) := by decide +kernel
theorem dX9_costTogether_201 : decode cX9_costTogether 201 = .ok (.iload 8, 2) := by decide +kernel
theorem dX9_costTogether_203 : decode cX9_costTogether 203 = .ok (.iaload, 1) := by decide +kernel
theorem dX9_costTogether_204 : decode cX9_costTogether 204 = .ok (.iaload, 1) := by decide +kernel
theorem dX9_costTogether_205 : decode cX9_costTogether 205 = .ok (.iconst 1, 1) := by decide +kernel
theorem dX9_costTogether_206 : decode cX9_costTogether 206 = .ok (.if_icmp .ne 24, 3) := by decide +kernel
theorem dX9_costTogether_209 : decode cX9_costTogether 209 = .ok (.aload_n 0, 1) := by decide +kernel
theorem dX9_costTogether_210 : decode cX9_costTogether 210 = .ok (.getfield 22, 3) := by decide +kernel
theorem dX9_costTogether_213 : decode cX9_costTogether 213 = .ok (.iload 6, 2) := by decide +kernel
theorem dX9_costTogether_215 : decode cX9_costTogether 215 = .ok (.iaload, 1) := by decide +kernel
theorem dX9_costTogether_216 : decode cX9_costTogether 216 = .ok (.aload_n 0, 1) := by decide +kernel
theorem dX9_costTogether_217 : decode cX9_costTogether 217 = .ok (.getfield 22, 3) := by decide +kernel
theorem dX9_costTogether_220 : decode cX9_costTogether 220 = .ok (.iload 8, 2) := by decide +kernel
theorem dX9_costTogether_222 : decode cX9_costTogether 222 = .ok (.iaload, 1) := by decide +kernel
theorem dX9_costTogether_223 : decode cX9_costTogether 223 = .ok (.if_icmp .eq 7, 3) := by decide +kernel
theorem dX9_costTogether_226 : decode cX9_costTogether 226 = .ok (.iconst 1, 1) := by decide +kernel
theorem dX9_costTogether_227 : decode cX9_costTogether 227 = .ok (.goto 4, 3) := by decide +kernel
theorem dX9_costTogether_230 : decode cX9_costTogether 230 = .ok (.iconst 0, 1) := by decide +kernel
theorem dX9_costTogether_231 : decode cX9_costTogether 231 = .ok (.istore 10, 2) := by decide +kernel
theorem dX9_costTogether_233 : decode cX9_costTogether 233 = .ok (.iload 9, 2) := by decide +kernel
theorem dX9_costTogether_235 : decode cX9_costTogether 235 = .ok (.ifCond .ne 8, 3) := by decide +kernel
theorem dX9_costTogether_238 : decode cX9_costTogether 238 = .ok (.iload 10, 2) := by decide +kernel
theorem dX9_costTogether_240 : decode cX9_costTogether 240 = .ok (.ifCond .eq 6, 3) := by decide +kernel
theorem dX9_costTogether_243 : decode cX9_costTogether 243 = .ok (.ldc 188, 2) := by decide +kernel
theorem dX9_costTogether_245 : decode cX9_costTogether 245 = .ok (.ireturn, 1) := by decide +kernel
theorem dX9_costTogether_246 : decode cX9_costTogether 246 = .ok (.iinc 8 1, 3) := by decide +kernel
theorem dX9_costTogether_249 : decode cX9_costTogether 249 = .ok (.goto (-153), 3) := by decide +kernel
theorem dX9_costTogether_252 : decode cX9_costTogether 252 = .ok (.iinc 6 1, 3) := by decide +kernel
theorem dX9_costTogether_255 : decode cX9_costTogether 255 = .ok (.goto (-244), 3) := by decide +kernel
theorem dX9_costTogether_258 : decode cX9_costTogether 258 = .ok (.iload 4, 2) := by decide +kernel
theorem dX9_costTogether_260 : decode cX9_costTogether 260 = .ok (.iload 5, 2) := by decide +kernel
theorem dX9_costTogether_262 : decode cX9_costTogether 262 = .ok (.ifCond .eq 12, 3) := by decide +kernel
theorem dX9_costTogether_265 : decode cX9_costTogether 265 = .ok (.aload_n 0, 1) := by decide +kernel
theorem dX9_costTogether_266 : decode cX9_costTogether 266 = .ok (.getfield 55, 3) := by decide +kernel
theorem dX9_costTogether_269 : decode cX9_costTogether 269 = .ok (.iconst 0, 1) := by decide +kernel
theorem dX9_costTogether_270 : decode cX9_costTogether 270 = .ok (.iaload, 1) := by decide +kernel
theorem dX9_costTogether_271 : decode cX9_costTogether 271 = .ok (.goto 4, 3) := by decide +kernel
theorem dX9_costTogether_274 : decode cX9_costTogether 274 = .ok (.iconst 0, 1) := by decide +kernel
theorem dX9_costTogether_275 : decode cX9_costTogether 275 = .ok (.iadd, 1) := by decide +kernel
theorem dX9_costTogether_276 : decode cX9_costTogether 276 = .ok (.ireturn, 1) := by decide +kernel
theorem dX9_worthBy_0 : decode cX9_worthBy 0 = .ok (.iconst 0, 1) := by decide +kernel
theorem dX9_worthBy_1 : decode cX9_worthBy 1 = .ok (.istore_n 2, 1) := by decide +kernel
theorem dX9_worthBy_2 : decode cX9_worthBy 2 = .ok (.iconst 0, 1) := by decide +kernel
theorem dX9_worthBy_3 : decode cX9_worthBy 3 = .ok (.istore_n 3, 1) := by decide +kernel
theorem dX9_worthBy_4 : decode cX9_worthBy 4 = .ok (.iload_n 3, 1) := by decide +kernel
theorem dX9_worthBy_5 : decode cX9_worthBy 5 = .ok (.aload_n 0, 1) := by decide +kernel
theorem dX9_worthBy_6 : decode cX9_worthBy 6 = .ok (.getfield 107, 3) := by decide +kernel
theorem dX9_worthBy_9 : decode cX9_worthBy 9 = .ok (.if_icmp .ge 30, 3) := by decide +kernel
theorem dX9_worthBy_12 : decode cX9_worthBy 12 = .ok (.iload_n 2, 1) := by decide +kernel
theorem dX9_worthBy_13 : decode cX9_worthBy 13 = .ok (.iload_n 1, 1) := by decide +kernel
theorem dX9_worthBy_14 : decode cX9_worthBy 14 = .ok (.iload_n 3, 1) := by decide +kernel
theorem dX9_worthBy_15 : decode cX9_worthBy 15 = .ok (.invokestatic 119, 3) := by decide +kernel
theorem dX9_worthBy_18 : decode cX9_worthBy 18 = .ok (.ifCond .eq 12, 3) := by decide +kernel
theorem dX9_worthBy_21 : decode cX9_worthBy 21 = .ok (.aload_n 0, 1) := by decide +kernel
theorem dX9_worthBy_22 : decode cX9_worthBy 22 = .ok (.getfield 25, 3) := by decide +kernel
theorem dX9_worthBy_25 : decode cX9_worthBy 25 = .ok (.iload_n 3, 1) := by decide +kernel
theorem dX9_worthBy_26 : decode cX9_worthBy 26 = .ok (.iaload, 1) := by decide +kernel
theorem dX9_worthBy_27 : decode cX9_worthBy 27 = .ok (.goto 4, 3) := by decide +kernel
theorem dX9_worthBy_30 : decode cX9_worthBy 30 = .ok (.iconst 0, 1) := by decide +kernel
theorem dX9_worthBy_31 : decode cX9_worthBy 31 = .ok (.iadd, 1) := by decide +kernel
theorem dX9_worthBy_32 : decode cX9_worthBy 32 = .ok (.istore_n 2, 1) := by decide +kernel
theorem dX9_worthBy_33 : decode cX9_worthBy 33 = .ok (.iinc 3 1, 3) := by decide +kernel
theorem dX9_worthBy_36 : decode cX9_worthBy 36 = .ok (.goto (-32), 3) := by decide +kernel
theorem dX9_worthBy_39 : decode cX9_worthBy 39 = .ok (.iload_n 2, 1) := by decide +kernel
theorem dX9_worthBy_40 : decode cX9_worthBy 40 = .ok (.ireturn, 1) := by decide +kernel
theorem dX9_bestOf_0 : decode cX9_bestOf 0 = .ok (.iconst 1, 1) := by decide +kernel
theorem dX9_bestOf_1 : decode cX9_bestOf 1 = .ok (.aload_n 0, 1) := by decide +kernel
theorem dX9_bestOf_2 : decode cX9_bestOf 2 = .ok (.getfield 107, 3) := by decide +kernel
theorem dX9_bestOf_5 : decode cX9_bestOf 5 = .ok (.ishl, 1) := by decide +kernel
theorem dX9_bestOf_6 : decode cX9_bestOf 6 = .ok (.iconst 1, 1) := by decide +kernel
theorem dX9_bestOf_7 : decode cX9_bestOf 7 = .ok (.isub, 1) := by decide +kernel
theorem dX9_bestOf_8 : decode cX9_bestOf 8 = .ok (.istore_n 2, 1) := by decide +kernel
theorem dX9_bestOf_9 : decode cX9_bestOf 9 = .ok (.iconst 0, 1) := by decide +kernel
theorem dX9_bestOf_10 : decode cX9_bestOf 10 = .ok (.istore_n 3, 1) := by decide +kernel
theorem dX9_bestOf_11 : decode cX9_bestOf 11 = .ok (.iload_n 3, 1) := by decide +kernel
theorem dX9_bestOf_12 : decode cX9_bestOf 12 = .ok (.iload_n 2, 1) := by decide +kernel
theorem dX9_bestOf_13 : decode cX9_bestOf 13 = .ok (.if_icmp .gt 25, 3) := by decide +kernel
theorem dX9_bestOf_16 : decode cX9_bestOf 16 = .ok (.aload_n 0, 1) := by decide +kernel
theorem dX9_bestOf_17 : decode cX9_bestOf 17 = .ok (.getfield 61, 3) := by decide +kernel
theorem dX9_bestOf_20 : decode cX9_bestOf 20 = .ok (.iload_n 3, 1) := by decide +kernel
theorem dX9_bestOf_21 : decode cX9_bestOf 21 = .ok (.iload_n 3, 1) := by decide +kernel
theorem dX9_bestOf_22 : decode cX9_bestOf 22 = .ok (.ifCond .ne 7, 3) := by decide +kernel
theorem dX9_bestOf_25 : decode cX9_bestOf 25 = .ok (.iconst 0, 1) := by decide +kernel
theorem dX9_bestOf_26 : decode cX9_bestOf 26 = .ok (.goto 5, 3) := by decide +kernel
theorem dX9_bestOf_29 : decode cX9_bestOf 29 = .ok (.ldc 188, 2) := by decide +kernel
theorem dX9_bestOf_31 : decode cX9_bestOf 31 = .ok (.iastore, 1) := by decide +kernel
theorem dX9_bestOf_32 : decode cX9_bestOf 32 = .ok (.iinc 3 1, 3) := by decide +kernel
theorem dX9_bestOf_35 : decode cX9_bestOf 35 = .ok (.goto (-24), 3) := by decide +kernel
theorem dX9_bestOf_38 : decode cX9_bestOf 38 = .ok (.iconst 0, 1) := by decide +kernel
theorem dX9_bestOf_39 : decode cX9_bestOf 39 = .ok (.istore_n 3, 1) := by decide +kernel
theorem dX9_bestOf_40 : decode cX9_bestOf 40 = .ok (.iload_n 3, 1) := by decide +kernel
theorem dX9_bestOf_41 : decode cX9_bestOf 41 = .ok (.bipush 8, 2) := by decide +kernel
theorem dX9_bestOf_43 : decode cX9_bestOf 43 = .ok (.if_icmp .ge 283, 3) := by decide +kernel
theorem dX9_bestOf_46 : decode cX9_bestOf 46 = .ok (.iconst 0, 1) := by decide +kernel
theorem dX9_bestOf_47 : decode cX9_bestOf 47 = .ok (.istore 4, 2) := by decide +kernel
theorem dX9_bestOf_49 : decode cX9_bestOf 49 = .ok (.iload_n 2, 1) := by decide +kernel
theorem dX9_bestOf_50 : decode cX9_bestOf 50 = .ok (.istore 5, 2) := by decide +kernel
theorem dX9_bestOf_52 : decode cX9_bestOf 52 = .ok (.iconst 0, 1) := by decide +kernel
theorem dX9_bestOf_53 : decode cX9_bestOf 53 = .ok (.istore 6, 2) := by decide +kernel
theorem dX9_bestOf_55 : decode cX9_bestOf 55 = .ok (.iload 6, 2) := by decide +kernel
theorem dX9_bestOf_57 : decode cX9_bestOf 57 = .ok (.iload_n 1, 1) := by decide +kernel
theorem dX9_bestOf_58 : decode cX9_bestOf 58 = .ok (.if_icmp .ge 59, 3) := by decide +kernel
theorem dX9_bestOf_61 : decode cX9_bestOf 61 = .ok (.iload 4, 2) := by decide +kernel
theorem dX9_bestOf_63 : decode cX9_bestOf 63 = .ok (.aload_n 0, 1) := by decide +kernel
theorem dX9_bestOf_64 : decode cX9_bestOf 64 = .ok (.getfield 67, 3) := by decide +kernel
theorem dX9_bestOf_67 : decode cX9_bestOf 67 = .ok (.iload 6, 2) := by decide +kernel
theorem dX9_bestOf_69 : decode cX9_bestOf 69 = .ok (.iaload, 1) := by decide +kernel
theorem dX9_bestOf_70 : decode cX9_bestOf 70 = .ok (.iload_n 3, 1) := by decide +kernel
theorem dX9_bestOf_71 : decode cX9_bestOf 71 = .ok (.if_icmp .ne 10, 3) := by decide +kernel
theorem dX9_bestOf_74 : decode cX9_bestOf 74 = .ok (.iconst 1, 1) := by decide +kernel
theorem dX9_bestOf_75 : decode cX9_bestOf 75 = .ok (.iload 6, 2) := by decide +kernel
theorem dX9_bestOf_77 : decode cX9_bestOf 77 = .ok (.ishl, 1) := by decide +kernel
theorem dX9_bestOf_78 : decode cX9_bestOf 78 = .ok (.goto 4, 3) := by decide +kernel
theorem dX9_bestOf_81 : decode cX9_bestOf 81 = .ok (.iconst 0, 1) := by decide +kernel
theorem dX9_bestOf_82 : decode cX9_bestOf 82 = .ok (.ior, 1) := by decide +kernel
theorem dX9_bestOf_83 : decode cX9_bestOf 83 = .ok (.istore 4, 2) := by decide +kernel
theorem dX9_bestOf_85 : decode cX9_bestOf 85 = .ok (.iload 5, 2) := by decide +kernel
theorem dX9_bestOf_87 : decode cX9_bestOf 87 = .ok (.aload_n 0, 1) := by decide +kernel
theorem dX9_bestOf_88 : decode cX9_bestOf 88 = .ok (.getfield 67, 3) := by decide +kernel
theorem dX9_bestOf_91 : decode cX9_bestOf 91 = .ok (.iload 6, 2) := by decide +kernel
theorem dX9_bestOf_93 : decode cX9_bestOf 93 = .ok (.iaload, 1) := by decide +kernel
theorem dX9_bestOf_94 : decode cX9_bestOf 94 = .ok (.iload_n 3, 1) := by decide +kernel
theorem dX9_bestOf_95 : decode cX9_bestOf 95 = .ok (.if_icmp .ne 7, 3) := by decide +kernel
theorem dX9_bestOf_98 : decode cX9_bestOf 98 = .ok (.iload_n 2, 1) := by decide +kernel
theorem dX9_bestOf_99 : decode cX9_bestOf 99 = .ok (.goto 9, 3) := by decide +kernel
theorem dX9_bestOf_102 : decode cX9_bestOf 102 = .ok (.iconst 1, 1) := by decide +kernel
theorem dX9_bestOf_103 : decode cX9_bestOf 103 = .ok (.iload 6, 2) := by decide +kernel
theorem dX9_bestOf_105 : decode cX9_bestOf 105 = .ok (.ishl, 1) := by decide +kernel
theorem dX9_bestOf_106 : decode cX9_bestOf 106 = .ok (.iconst (-1), 1) := by decide +kernel
theorem dX9_bestOf_107 : decode cX9_bestOf 107 = .ok (.ixor, 1) := by decide +kernel
theorem dX9_bestOf_108 : decode cX9_bestOf 108 = .ok (.iand, 1) := by decide +kernel
theorem dX9_bestOf_109 : decode cX9_bestOf 109 = .ok (.istore 5, 2) := by decide +kernel
theorem dX9_bestOf_111 : decode cX9_bestOf 111 = .ok (.iinc 6 1, 3) := by decide +kernel
theorem dX9_bestOf_114 : decode cX9_bestOf 114 = .ok (.goto (-59), 3) := by decide +kernel
theorem dX9_bestOf_117 : decode cX9_bestOf 117 = .ok (.iconst 0, 1) := by decide +kernel
theorem dX9_bestOf_118 : decode cX9_bestOf 118 = .ok (.istore 6, 2) := by decide +kernel
theorem dX9_bestOf_120 : decode cX9_bestOf 120 = .ok (.iload 6, 2) := by decide +kernel
theorem dX9_bestOf_122 : decode cX9_bestOf 122 = .ok (.iload_n 2, 1) := by decide +kernel
theorem dX9_bestOf_123 : decode cX9_bestOf 123 = .ok (.if_icmp .gt 168, 3) := by decide +kernel
theorem dX9_bestOf_126 : decode cX9_bestOf 126 = .ok (.aload_n 0, 1) := by decide +kernel
theorem dX9_bestOf_127 : decode cX9_bestOf 127 = .ok (.getfield 64, 3) := by decide +kernel
theorem dX9_bestOf_130 : decode cX9_bestOf 130 = .ok (.iload 6, 2) := by decide +kernel
theorem dX9_bestOf_132 : decode cX9_bestOf 132 = .ok (.ldc 188, 2) := by decide +kernel
theorem dX9_bestOf_134 : decode cX9_bestOf 134 = .ok (.iastore, 1) := by decide +kernel
theorem dX9_bestOf_135 : decode cX9_bestOf 135 = .ok (.iload 6, 2) := by decide +kernel
theorem dX9_bestOf_137 : decode cX9_bestOf 137 = .ok (.istore 7, 2) := by decide +kernel
theorem dX9_bestOf_139 : decode cX9_bestOf 139 = .ok (.iconst 1, 1) := by decide +kernel
theorem dX9_bestOf_140 : decode cX9_bestOf 140 = .ok (.istore 8, 2) := by decide +kernel
theorem dX9_bestOf_142 : decode cX9_bestOf 142 = .ok (.iload 8, 2) := by decide +kernel
theorem dX9_bestOf_144 : decode cX9_bestOf 144 = .ok (.ifCond .eq 141, 3) := by decide +kernel
theorem dX9_bestOf_147 : decode cX9_bestOf 147 = .ok (.iload 7, 2) := by decide +kernel
theorem dX9_bestOf_149 : decode cX9_bestOf 149 = .ok (.iload 4, 2) := by decide +kernel
theorem dX9_bestOf_151 : decode cX9_bestOf 151 = .ok (.iand, 1) := by decide +kernel
theorem dX9_bestOf_152 : decode cX9_bestOf 152 = .ok (.iload 4, 2) := by decide +kernel
theorem dX9_bestOf_154 : decode cX9_bestOf 154 = .ok (.if_icmp .ne 107, 3) := by decide +kernel
theorem dX9_bestOf_157 : decode cX9_bestOf 157 = .ok (.iload 7, 2) := by decide +kernel
theorem dX9_bestOf_159 : decode cX9_bestOf 159 = .ok (.iload 5, 2) := by decide +kernel
theorem dX9_bestOf_161 : decode cX9_bestOf 161 = .ok (.iconst (-1), 1) := by decide +kernel
theorem dX9_bestOf_162 : decode cX9_bestOf 162 = .ok (.ixor, 1) := by decide +kernel
theorem dX9_bestOf_163 : decode cX9_bestOf 163 = .ok (.iand, 1) := by decide +kernel
theorem dX9_bestOf_164 : decode cX9_bestOf 164 = .ok (.ifCond .ne 97, 3) := by decide +kernel
theorem dX9_bestOf_167 : decode cX9_bestOf 167 = .ok (.aload_n 0, 1) := by decide +kernel
theorem dX9_bestOf_168 : decode cX9_bestOf 168 = .ok (.getfield 58, 3) := by decide +kernel
theorem dX9_bestOf_171 : decode cX9_bestOf 171 = .ok (.sipush 256, 3) := by decide +kernel
theorem dX9_bestOf_174 : decode cX9_bestOf 174 = .ok (.iload_n 3, 1) := by decide +kernel
theorem dX9_bestOf_175 : decode cX9_bestOf 175 = .ok (.imul, 1) := by decide +kernel
theorem dX9_bestOf_176 : decode cX9_bestOf 176 = .ok (.iload 7, 2) := by decide +kernel
theorem dX9_bestOf_178 : decode cX9_bestOf 178 = .ok (.iadd, 1) := by decide +kernel
theorem dX9_bestOf_179 : decode cX9_bestOf 179 = .ok (.iaload, 1) := by decide +kernel
theorem dX9_bestOf_180 : decode cX9_bestOf 180 = .ok (.ldc 188, 2) := by decide +kernel
theorem dX9_bestOf_182 : decode cX9_bestOf 182 = .ok (.if_icmp .ge 79, 3) := by decide +kernel
theorem dX9_bestOf_185 : decode cX9_bestOf 185 = .ok (.aload_n 0, 1) := by decide +kernel
theorem dX9_bestOf_186 : decode cX9_bestOf 186 = .ok (.getfield 61, 3) := by decide +kernel
theorem dX9_bestOf_189 : decode cX9_bestOf 189 = .ok (.iload 6, 2) := by decide +kernel
theorem dX9_bestOf_191 : decode cX9_bestOf 191 = .ok (.iload 7, 2) := by decide +kernel
theorem dX9_bestOf_193 : decode cX9_bestOf 193 = .ok (.iconst (-1), 1) := by decide +kernel
theorem dX9_bestOf_194 : decode cX9_bestOf 194 = .ok (.ixor, 1) := by decide +kernel
theorem dX9_bestOf_195 : decode cX9_bestOf 195 = .ok (.iand, 1) := by decide +kernel
theorem dX9_bestOf_196 : decode cX9_bestOf 196 = .ok (.iaload, 1) := by decide +kernel
theorem dX9_bestOf_197 : decode cX9_bestOf 197 = .ok (.ldc 188, 2) := by decide +kernel
theorem dX9_bestOf_199 : decode cX9_bestOf 199 = .ok (.if_icmp .ge 62, 3) := by decide +kernel
theorem dX9_bestOf_202 : decode cX9_bestOf 202 = .ok (.aload_n 0, 1) := by decide +kernel
theorem dX9_bestOf_203 : decode cX9_bestOf 203 = .ok (.getfield 61, 3) := by decide +kernel
theorem dX9_bestOf_206 : decode cX9_bestOf 206 = .ok (.iload 6, 2) := by decide +kernel
theorem dX9_bestOf_208 : decode cX9_bestOf 208 = .ok (.iload 7, 2) := by decide +kernel
theorem dX9_bestOf_210 : decode cX9_bestOf 210 = .ok (.iconst (-1), 1) := by decide +kernel
theorem dX9_bestOf_211 : decode cX9_bestOf 211 = .ok (.ixor, 1) := by decide +kernel
theorem dX9_bestOf_212 : decode cX9_bestOf 212 = .ok (.iand, 1) := by decide +kernel
theorem dX9_bestOf_213 : decode cX9_bestOf 213 = .ok (.iaload, 1) := by decide +kernel
theorem dX9_bestOf_214 : decode cX9_bestOf 214 = .ok (.aload_n 0, 1) := by decide +kernel
theorem dX9_bestOf_215 : decode cX9_bestOf 215 = .ok (.getfield 58, 3) := by decide +kernel
theorem dX9_bestOf_218 : decode cX9_bestOf 218 = .ok (.sipush 256, 3) := by decide +kernel
theorem dX9_bestOf_221 : decode cX9_bestOf 221 = .ok (.iload_n 3, 1) := by decide +kernel
theorem dX9_bestOf_222 : decode cX9_bestOf 222 = .ok (.imul, 1) := by decide +kernel
theorem dX9_bestOf_223 : decode cX9_bestOf 223 = .ok (.iload 7, 2) := by decide +kernel
theorem dX9_bestOf_225 : decode cX9_bestOf 225 = .ok (.iadd, 1) := by decide +kernel
theorem dX9_bestOf_226 : decode cX9_bestOf 226 = .ok (.iaload, 1) := by decide +kernel
theorem dX9_bestOf_227 : decode cX9_bestOf 227 = .ok (.iadd, 1) := by decide +kernel
theorem dX9_bestOf_228 : decode cX9_bestOf 228 = .ok (.istore 9, 2) := by decide +kernel
theorem dX9_bestOf_230 : decode cX9_bestOf 230 = .ok (.aload_n 0, 1) := by decide +kernel
theorem dX9_bestOf_231 : decode cX9_bestOf 231 = .ok (.getfield 64, 3) := by decide +kernel
theorem dX9_bestOf_234 : decode cX9_bestOf 234 = .ok (.iload 6, 2) := by decide +kernel
theorem dX9_bestOf_236 : decode cX9_bestOf 236 = .ok (.iload 9, 2) := by decide +kernel
theorem dX9_bestOf_238 : decode cX9_bestOf 238 = .ok (.aload_n 0, 1) := by decide +kernel
theorem dX9_bestOf_239 : decode cX9_bestOf 239 = .ok (.getfield 64, 3) := by decide +kernel
theorem dX9_bestOf_242 : decode cX9_bestOf 242 = .ok (.iload 6, 2) := by decide +kernel
theorem dX9_bestOf_244 : decode cX9_bestOf 244 = .ok (.iaload, 1) := by decide +kernel
theorem dX9_bestOf_245 : decode cX9_bestOf 245 = .ok (.if_icmp .ge 8, 3) := by decide +kernel
theorem dX9_bestOf_248 : decode cX9_bestOf 248 = .ok (.iload 9, 2) := by decide +kernel
theorem dX9_bestOf_250 : decode cX9_bestOf 250 = .ok (.goto 10, 3) := by decide +kernel
theorem dX9_bestOf_253 : decode cX9_bestOf 253 = .ok (.aload_n 0, 1) := by decide +kernel
theorem dX9_bestOf_254 : decode cX9_bestOf 254 = .ok (.getfield 64, 3) := by decide +kernel
theorem dX9_bestOf_257 : decode cX9_bestOf 257 = .ok (.iload 6, 2) := by decide +kernel
theorem dX9_bestOf_259 : decode cX9_bestOf 259 = .ok (.iaload, 1) := by decide +kernel
theorem dX9_bestOf_260 : decode cX9_bestOf 260 = .ok (.iastore, 1) := by decide +kernel
theorem dX9_bestOf_261 : decode cX9_bestOf 261 = .ok (.iload 7, 2) := by decide +kernel
theorem dX9_bestOf_263 : decode cX9_bestOf 263 = .ok (.ifCond .eq 7, 3) := by decide +kernel
theorem dX9_bestOf_266 : decode cX9_bestOf 266 = .ok (.iconst 1, 1) := by decide +kernel
theorem dX9_bestOf_267 : decode cX9_bestOf 267 = .ok (.goto 4, 3) := by decide +kernel
theorem dX9_bestOf_270 : decode cX9_bestOf 270 = .ok (.iconst 0, 1) := by decide +kernel
theorem dX9_bestOf_271 : decode cX9_bestOf 271 = .ok (.istore 8, 2) := by decide +kernel
theorem dX9_bestOf_273 : decode cX9_bestOf 273 = .ok (.iload 7, 2) := by decide +kernel
theorem dX9_bestOf_275 : decode cX9_bestOf 275 = .ok (.iconst 1, 1) := by decide +kernel
theorem dX9_bestOf_276 : decode cX9_bestOf 276 = .ok (.isub, 1) := by decide +kernel
theorem dX9_bestOf_277 : decode cX9_bestOf 277 = .ok (.iload 6, 2) := by decide +kernel
theorem dX9_bestOf_279 : decode cX9_bestOf 279 = .ok (.iand, 1) := by decide +kernel
theorem dX9_bestOf_280 : decode cX9_bestOf 280 = .ok (.istore 7, 2) := by decide +kernel
theorem dX9_bestOf_282 : decode cX9_bestOf 282 = .ok (.goto (-140), 3) := by decide +kernel
theorem dX9_bestOf_285 : decode cX9_bestOf 285 = .ok (.iinc 6 1, 3) := by decide +kernel
theorem dX9_bestOf_288 : decode cX9_bestOf 288 = .ok (.goto (-168), 3) := by decide +kernel
theorem dX9_bestOf_291 : decode cX9_bestOf 291 = .ok (.iconst 0, 1) := by decide +kernel
theorem dX9_bestOf_292 : decode cX9_bestOf 292 = .ok (.istore 6, 2) := by decide +kernel
theorem dX9_bestOf_294 : decode cX9_bestOf 294 = .ok (.iload 6, 2) := by decide +kernel
theorem dX9_bestOf_296 : decode cX9_bestOf 296 = .ok (.iload_n 2, 1) := by decide +kernel
theorem dX9_bestOf_297 : decode cX9_bestOf 297 = .ok (.if_icmp .gt 23, 3) := by decide +kernel
theorem dX9_bestOf_300 : decode cX9_bestOf 300 = .ok (.aload_n 0, 1) := by decide +kernel
theorem dX9_bestOf_301 : decode cX9_bestOf 301 = .ok (.getfield 61, 3) := by decide +kernel
theorem dX9_bestOf_304 : decode cX9_bestOf 304 = .ok (.iload 6, 2) := by decide +kernel
theorem dX9_bestOf_306 : decode cX9_bestOf 306 = .ok (.aload_n 0, 1) := by decide +kernel
theorem dX9_bestOf_307 : decode cX9_bestOf 307 = .ok (.getfield 64, 3) := by decide +kernel
theorem dX9_bestOf_310 : decode cX9_bestOf 310 = .ok (.iload 6, 2) := by decide +kernel
theorem dX9_bestOf_312 : decode cX9_bestOf 312 = .ok (.iaload, 1) := by decide +kernel
theorem dX9_bestOf_313 : decode cX9_bestOf 313 = .ok (.iastore, 1) := by decide +kernel
theorem dX9_bestOf_314 : decode cX9_bestOf 314 = .ok (.iinc 6 1, 3) := by decide +kernel
theorem dX9_bestOf_317 : decode cX9_bestOf 317 = .ok (.goto (-23), 3) := by decide +kernel
theorem dX9_bestOf_320 : decode cX9_bestOf 320 = .ok (.iinc 3 1, 3) := by decide +kernel
theorem dX9_bestOf_323 : decode cX9_bestOf 323 = .ok (.goto (-283), 3) := by decide +kernel
theorem dX9_bestOf_326 : decode cX9_bestOf 326 = .ok (.aload_n 0, 1) := by decide +kernel
theorem dX9_bestOf_327 : decode cX9_bestOf 327 = .ok (.iconst (-1), 1) := by decide +kernel
theorem dX9_bestOf_328 : decode cX9_bestOf 328 = .ok (.putfield 189, 3) := by decide +kernel
theorem dX9_bestOf_331 : decode cX9_bestOf 331 = .ok (.aload_n 0, 1) := by decide +kernel
theorem dX9_bestOf_332 : decode cX9_bestOf 332 = .ok (.iconst 0, 1) := by decide +kernel
theorem dX9_bestOf_333 : decode cX9_bestOf 333 = .ok (.putfield 192, 3) := by decide +kernel
theorem dX9_bestOf_336 : decode cX9_bestOf 336 = .ok (.iconst 0, 1) := by decide +kernel
theorem dX9_bestOf_337 : decode cX9_bestOf 337 = .ok (.istore_n 3, 1) := by decide +kernel
theorem dX9_bestOf_338 : decode cX9_bestOf 338 = .ok (.iload_n 3, 1) := by decide +kernel
theorem dX9_bestOf_339 : decode cX9_bestOf 339 = .ok (.iload_n 2, 1) := by decide +kernel
theorem dX9_bestOf_340 : decode cX9_bestOf 340 = .ok (.if_icmp .gt 109, 3) := by decide +kernel
theorem dX9_bestOf_343 : decode cX9_bestOf 343 = .ok (.aload_n 0, 1) := by decide +kernel
theorem dX9_bestOf_344 : decode cX9_bestOf 344 = .ok (.iload_n 3, 1) := by decide +kernel
theorem dX9_bestOf_345 : decode cX9_bestOf 345 = .ok (.invokevirtual 195, 3) := by decide +kernel
theorem dX9_bestOf_348 : decode cX9_bestOf 348 = .ok (.istore 4, 2) := by decide +kernel
theorem dX9_bestOf_350 : decode cX9_bestOf 350 = .ok (.aload_n 0, 1) := by decide +kernel
theorem dX9_bestOf_351 : decode cX9_bestOf 351 = .ok (.getfield 61, 3) := by decide +kernel
theorem dX9_bestOf_354 : decode cX9_bestOf 354 = .ok (.iload_n 3, 1) := by decide +kernel
theorem dX9_bestOf_355 : decode cX9_bestOf 355 = .ok (.iaload, 1) := by decide +kernel
theorem dX9_bestOf_356 : decode cX9_bestOf 356 = .ok (.aload_n 0, 1) := by decide +kernel
theorem dX9_bestOf_357 : decode cX9_bestOf 357 = .ok (.getfield 55, 3) := by decide +kernel
theorem dX9_bestOf_360 : decode cX9_bestOf 360 = .ok (.iconst 2, 1) := by decide +kernel
theorem dX9_bestOf_361 : decode cX9_bestOf 361 = .ok (.iaload, 1) := by decide +kernel
theorem dX9_bestOf_362 : decode cX9_bestOf 362 = .ok (.if_icmp .gt 38, 3) := by decide +kernel
theorem dX9_bestOf_365 : decode cX9_bestOf 365 = .ok (.iload 4, 2) := by decide +kernel
theorem dX9_bestOf_367 : decode cX9_bestOf 367 = .ok (.aload_n 0, 1) := by decide +kernel
theorem dX9_bestOf_368 : decode cX9_bestOf 368 = .ok (.getfield 189, 3) := by decide +kernel
theorem dX9_bestOf_371 : decode cX9_bestOf 371 = .ok (.if_icmp .gt 25, 3) := by decide +kernel
theorem dX9_bestOf_374 : decode cX9_bestOf 374 = .ok (.iload 4, 2) := by decide +kernel
theorem dX9_bestOf_376 : decode cX9_bestOf 376 = .ok (.aload_n 0, 1) := by decide +kernel
theorem dX9_bestOf_377 : decode cX9_bestOf 377 = .ok (.getfield 189, 3) := by decide +kernel
theorem dX9_bestOf_380 : decode cX9_bestOf 380 = .ok (.if_icmp .ne 20, 3) := by decide +kernel
theorem dX9_bestOf_383 : decode cX9_bestOf 383 = .ok (.aload_n 0, 1) := by decide +kernel
theorem dX9_bestOf_384 : decode cX9_bestOf 384 = .ok (.getfield 61, 3) := by decide +kernel
theorem dX9_bestOf_387 : decode cX9_bestOf 387 = .ok (.iload_n 3, 1) := by decide +kernel
theorem dX9_bestOf_388 : decode cX9_bestOf 388 = .ok (.iaload, 1) := by decide +kernel
theorem dX9_bestOf_389 : decode cX9_bestOf 389 = .ok (.aload_n 0, 1) := by decide +kernel
theorem dX9_bestOf_390 : decode cX9_bestOf 390 = .ok (.getfield 192, 3) := by decide +kernel
theorem dX9_bestOf_393 : decode cX9_bestOf 393 = .ok (.if_icmp .ge 7, 3) := by decide +kernel
theorem dX9_bestOf_396 : decode cX9_bestOf 396 = .ok (.iconst 1, 1) := by decide +kernel
theorem dX9_bestOf_397 : decode cX9_bestOf 397 = .ok (.goto 4, 3) := by decide +kernel
theorem dX9_bestOf_400 : decode cX9_bestOf 400 = .ok (.iconst 0, 1) := by decide +kernel
theorem dX9_bestOf_401 : decode cX9_bestOf 401 = .ok (.istore 5, 2) := by decide +kernel
theorem dX9_bestOf_403 : decode cX9_bestOf 403 = .ok (.aload_n 0, 1) := by decide +kernel
theorem dX9_bestOf_404 : decode cX9_bestOf 404 = .ok (.iload 5, 2) := by decide +kernel
theorem dX9_bestOf_406 : decode cX9_bestOf 406 = .ok (.ifCond .eq 8, 3) := by decide +kernel
theorem dX9_bestOf_409 : decode cX9_bestOf 409 = .ok (.iload 4, 2) := by decide +kernel
theorem dX9_bestOf_411 : decode cX9_bestOf 411 = .ok (.goto 7, 3) := by decide +kernel
theorem dX9_bestOf_414 : decode cX9_bestOf 414 = .ok (.aload_n 0, 1) := by decide +kernel
theorem dX9_bestOf_415 : decode cX9_bestOf 415 = .ok (.getfield 189, 3) := by decide +kernel
theorem dX9_bestOf_418 : decode cX9_bestOf 418 = .ok (.putfield 189, 3) := by decide +kernel
theorem dX9_bestOf_421 : decode cX9_bestOf 421 = .ok (.aload_n 0, 1) := by decide +kernel
theorem dX9_bestOf_422 : decode cX9_bestOf 422 = .ok (.iload 5, 2) := by decide +kernel
theorem dX9_bestOf_424 : decode cX9_bestOf 424 = .ok (.ifCond .eq 12, 3) := by decide +kernel
theorem dX9_bestOf_427 : decode cX9_bestOf 427 = .ok (.aload_n 0, 1) := by decide +kernel
theorem dX9_bestOf_428 : decode cX9_bestOf 428 = .ok (.getfield 61, 3) := by decide +kernel
theorem dX9_bestOf_431 : decode cX9_bestOf 431 = .ok (.iload_n 3, 1) := by decide +kernel
theorem dX9_bestOf_432 : decode cX9_bestOf 432 = .ok (.iaload, 1) := by decide +kernel
theorem dX9_bestOf_433 : decode cX9_bestOf 433 = .ok (.goto 7, 3) := by decide +kernel
theorem dX9_bestOf_436 : decode cX9_bestOf 436 = .ok (.aload_n 0, 1) := by decide +kernel
theorem dX9_bestOf_437 : decode cX9_bestOf 437 = .ok (.getfield 192, 3) := by decide +kernel
theorem dX9_bestOf_440 : decode cX9_bestOf 440 = .ok (.putfield 192, 3) := by decide +kernel
theorem dX9_bestOf_443 : decode cX9_bestOf 443 = .ok (.iinc 3 1, 3) := by decide +kernel
theorem dX9_bestOf_446 : decode cX9_bestOf 446 = .ok (.goto (-108), 3) := by decide +kernel
theorem dX9_bestOf_449 : decode cX9_bestOf 449 = .ok (.return_, 1) := by decide +kernel
theorem dX9_laysMost_0 : decode cX9_laysMost 0 = .ok (.aload_n 0, 1) := by decide +kernel
theorem dX9_laysMost_1 : decode cX9_laysMost 1 = .ok (.invokevirtual 139, 3) := by decide +kernel
theorem dX9_laysMost_4 : decode cX9_laysMost 4 = .ok (.iconst 0, 1) := by decide +kernel
theorem dX9_laysMost_5 : decode cX9_laysMost 5 = .ok (.istore_n 1, 1) := by decide +kernel
theorem dX9_laysMost_6 : decode cX9_laysMost 6 = .ok (.iload_n 1, 1) := by decide +kernel
theorem dX9_laysMost_7 : decode cX9_laysMost 7 = .ok (.bipush 8, 2) := by decide +kernel
theorem dX9_laysMost_9 : decode cX9_laysMost 9 = .ok (.if_icmp .ge 45, 3) := by decide +kernel
theorem dX9_laysMost_12 : decode cX9_laysMost 12 = .ok (.iconst 0, 1) := by decide +kernel
theorem dX9_laysMost_13 : decode cX9_laysMost 13 = .ok (.istore_n 2, 1) := by decide +kernel
theorem dX9_laysMost_14 : decode cX9_laysMost 14 = .ok (.iload_n 2, 1) := by decide +kernel
theorem dX9_laysMost_15 : decode cX9_laysMost 15 = .ok (.iconst 1, 1) := by decide +kernel
theorem dX9_laysMost_16 : decode cX9_laysMost 16 = .ok (.aload_n 0, 1) := by decide +kernel
theorem dX9_laysMost_17 : decode cX9_laysMost 17 = .ok (.getfield 107, 3) := by decide +kernel
theorem dX9_laysMost_20 : decode cX9_laysMost 20 = .ok (.ishl, 1) := by decide +kernel
theorem dX9_laysMost_21 : decode cX9_laysMost 21 = .ok (.if_icmp .ge 27, 3) := by decide +kernel
theorem dX9_laysMost_24 : decode cX9_laysMost 24 = .ok (.aload_n 0, 1) := by decide +kernel
theorem dX9_laysMost_25 : decode cX9_laysMost 25 = .ok (.getfield 58, 3) := by decide +kernel
theorem dX9_laysMost_28 : decode cX9_laysMost 28 = .ok (.sipush 256, 3) := by decide +kernel
theorem dX9_laysMost_31 : decode cX9_laysMost 31 = .ok (.iload_n 1, 1) := by decide +kernel
theorem dX9_laysMost_32 : decode cX9_laysMost 32 = .ok (.imul, 1) := by decide +kernel
theorem dX9_laysMost_33 : decode cX9_laysMost 33 = .ok (.iload_n 2, 1) := by decide +kernel
theorem dX9_laysMost_34 : decode cX9_laysMost 34 = .ok (.iadd, 1) := by decide +kernel
theorem dX9_laysMost_35 : decode cX9_laysMost 35 = .ok (.aload_n 0, 1) := by decide +kernel
theorem dX9_laysMost_36 : decode cX9_laysMost 36 = .ok (.iload_n 2, 1) := by decide +kernel
theorem dX9_laysMost_37 : decode cX9_laysMost 37 = .ok (.iload_n 1, 1) := by decide +kernel
theorem dX9_laysMost_38 : decode cX9_laysMost 38 = .ok (.invokevirtual 198, 3) := by decide +kernel
theorem dX9_laysMost_41 : decode cX9_laysMost 41 = .ok (.iastore, 1) := by decide +kernel
theorem dX9_laysMost_42 : decode cX9_laysMost 42 = .ok (.iinc 2 1, 3) := by decide +kernel
theorem dX9_laysMost_45 : decode cX9_laysMost 45 = .ok (.goto (-31), 3) := by decide +kernel
theorem dX9_laysMost_48 : decode cX9_laysMost 48 = .ok (.iinc 1 1, 3) := by decide +kernel
theorem dX9_laysMost_51 : decode cX9_laysMost 51 = .ok (.goto (-45), 3) := by decide +kernel
theorem dX9_laysMost_54 : decode cX9_laysMost 54 = .ok (.aload_n 0, 1) := by decide +kernel
theorem dX9_laysMost_55 : decode cX9_laysMost 55 = .ok (.iconst 0, 1) := by decide +kernel
theorem dX9_laysMost_56 : decode cX9_laysMost 56 = .ok (.invokevirtual 201, 3) := by decide +kernel
theorem dX9_laysMost_59 : decode cX9_laysMost 59 = .ok (.aload_n 0, 1) := by decide +kernel
theorem dX9_laysMost_60 : decode cX9_laysMost 60 = .ok (.aload_n 0, 1) := by decide +kernel
theorem dX9_laysMost_61 : decode cX9_laysMost 61 = .ok (.getfield 189, 3) := by decide +kernel
theorem dX9_laysMost_64 : decode cX9_laysMost 64 = .ok (.putfield 205, 3) := by decide +kernel
theorem dX9_laysMost_67 : decode cX9_laysMost 67 = .ok (.aload_n 0, 1) := by decide +kernel
theorem dX9_laysMost_68 : decode cX9_laysMost 68 = .ok (.aload_n 0, 1) := by decide +kernel
theorem dX9_laysMost_69 : decode cX9_laysMost 69 = .ok (.getfield 192, 3) := by decide +kernel
theorem dX9_laysMost_72 : decode cX9_laysMost 72 = .ok (.putfield 208, 3) := by decide +kernel
theorem dX9_laysMost_75 : decode cX9_laysMost 75 = .ok (.iconst 0, 1) := by decide +kernel
theorem dX9_laysMost_76 : decode cX9_laysMost 76 = .ok (.istore_n 1, 1) := by decide +kernel
theorem dX9_laysMost_77 : decode cX9_laysMost 77 = .ok (.iload_n 1, 1) := by decide +kernel
theorem dX9_laysMost_78 : decode cX9_laysMost 78 = .ok (.aload_n 0, 1) := by decide +kernel
theorem dX9_laysMost_79 : decode cX9_laysMost 79 = .ok (.getfield 107, 3) := by decide +kernel
theorem dX9_laysMost_82 : decode cX9_laysMost 82 = .ok (.if_icmp .ge 65, 3) := by decide +kernel
theorem dX9_laysMost_85 : decode cX9_laysMost 85 = .ok (.aload_n 0, 1) := by decide +kernel
theorem dX9_laysMost_86 : decode cX9_laysMost 86 = .ok (.getfield 67, 3) := by decide +kernel
theorem dX9_laysMost_89 : decode cX9_laysMost 89 = .ok (.iload_n 1, 1) := by decide +kernel
theorem dX9_laysMost_90 : decode cX9_laysMost 90 = .ok (.iconst (-1), 1) := by decide +kernel
theorem dX9_laysMost_91 : decode cX9_laysMost 91 = .ok (.iastore, 1) := by decide +kernel
theorem dX9_laysMost_92 : decode cX9_laysMost 92 = .ok (.aload_n 0, 1) := by decide +kernel
theorem dX9_laysMost_93 : decode cX9_laysMost 93 = .ok (.iload_n 1, 1) := by decide +kernel
theorem dX9_laysMost_94 : decode cX9_laysMost 94 = .ok (.iconst 1, 1) := by decide +kernel
theorem dX9_laysMost_95 : decode cX9_laysMost 95 = .ok (.iadd, 1) := by decide +kernel
theorem dX9_laysMost_96 : decode cX9_laysMost 96 = .ok (.invokevirtual 201, 3) := by decide +kernel
theorem dX9_laysMost_99 : decode cX9_laysMost 99 = .ok (.aload_n 0, 1) := by decide +kernel
theorem dX9_laysMost_100 : decode cX9_laysMost 100 = .ok (.getfield 189, 3) := by decide +kernel
theorem dX9_laysMost_103 : decode cX9_laysMost 103 = .ok (.aload_n 0, 1) := by decide +kernel
theorem dX9_laysMost_104 : decode cX9_laysMost 104 = .ok (.getfield 205, 3) := by decide +kernel
theorem dX9_laysMost_107 : decode cX9_laysMost 107 = .ok (.if_icmp .ne 14, 3) := by decide +kernel
theorem dX9_laysMost_110 : decode cX9_laysMost 110 = .ok (.aload_n 0, 1) := by decide +kernel
theorem dX9_laysMost_111 : decode cX9_laysMost 111 = .ok (.getfield 192, 3) := by decide +kernel
theorem dX9_laysMost_114 : decode cX9_laysMost 114 = .ok (.aload_n 0, 1) := by decide +kernel
theorem dX9_laysMost_115 : decode cX9_laysMost 115 = .ok (.getfield 208, 3) := by decide +kernel
theorem dX9_laysMost_118 : decode cX9_laysMost 118 = .ok (.if_icmp .eq 23, 3) := by decide +kernel
theorem dX9_laysMost_121 : decode cX9_laysMost 121 = .ok (.aload_n 0, 1) := by decide +kernel
theorem dX9_laysMost_122 : decode cX9_laysMost 122 = .ok (.getfield 67, 3) := by decide +kernel
theorem dX9_laysMost_125 : decode cX9_laysMost 125 = .ok (.iload_n 1, 1) := by decide +kernel
theorem dX9_laysMost_126 : decode cX9_laysMost 126 = .ok (.dup2, 1) := by decide +kernel
theorem dX9_laysMost_127 : decode cX9_laysMost 127 = .ok (.iaload, 1) := by decide +kernel
theorem dX9_laysMost_128 : decode cX9_laysMost 128 = .ok (.iconst 1, 1) := by decide +kernel
theorem dX9_laysMost_129 : decode cX9_laysMost 129 = .ok (.iadd, 1) := by decide +kernel
theorem dX9_laysMost_130 : decode cX9_laysMost 130 = .ok (.iastore, 1) := by decide +kernel
theorem dX9_laysMost_131 : decode cX9_laysMost 131 = .ok (.aload_n 0, 1) := by decide +kernel
theorem dX9_laysMost_132 : decode cX9_laysMost 132 = .ok (.iload_n 1, 1) := by decide +kernel
theorem dX9_laysMost_133 : decode cX9_laysMost 133 = .ok (.iconst 1, 1) := by decide +kernel
theorem dX9_laysMost_134 : decode cX9_laysMost 134 = .ok (.iadd, 1) := by decide +kernel
theorem dX9_laysMost_135 : decode cX9_laysMost 135 = .ok (.invokevirtual 201, 3) := by decide +kernel
theorem dX9_laysMost_138 : decode cX9_laysMost 138 = .ok (.goto (-39), 3) := by decide +kernel
theorem dX9_laysMost_141 : decode cX9_laysMost 141 = .ok (.iinc 1 1, 3) := by decide +kernel
theorem dX9_laysMost_144 : decode cX9_laysMost 144 = .ok (.goto (-67), 3) := by decide +kernel
theorem dX9_laysMost_147 : decode cX9_laysMost 147 = .ok (.return_, 1) := by decide +kernel
theorem dX9_most_0 : decode cX9_most 0 = .ok (.iload_n 1, 1) := by decide +kernel
theorem dX9_most_1 : decode cX9_most 1 = .ok (.iconst 0, 1) := by decide +kernel
theorem dX9_most_2 : decode cX9_most 2 = .ok (.iconst 1, 1) := by decide +kernel
theorem dX9_most_3 : decode cX9_most 3 = .ok (.invokestatic 103, 3) := by decide +kernel
theorem dX9_most_6 : decode cX9_most 6 = .ok (.ifCond .ne 6, 3) := by decide +kernel
theorem dX9_most_9 : decode cX9_most 9 = .ok (.bipush (-2), 2) := by decide +kernel
theorem dX9_most_11 : decode cX9_most 11 = .ok (.ireturn, 1) := by decide +kernel
theorem dX9_most_12 : decode cX9_most 12 = .ok (.aload_n 0, 1) := by decide +kernel
theorem dX9_most_13 : decode cX9_most 13 = .ok (.invokevirtual 211, 3) := by decide +kernel
theorem dX9_most_16 : decode cX9_most 16 = .ok (.iload_n 1, 1) := by decide +kernel
theorem dX9_most_17 : decode cX9_most 17 = .ok (.ifCond .ne 10, 3) := by decide +kernel
theorem dX9_most_20 : decode cX9_most 20 = .ok (.aload_n 0, 1) := by decide +kernel
theorem dX9_most_21 : decode cX9_most 21 = .ok (.getfield 205, 3) := by decide +kernel
theorem dX9_most_24 : decode cX9_most 24 = .ok (.goto 7, 3) := by decide +kernel
theorem dX9_most_27 : decode cX9_most 27 = .ok (.aload_n 0, 1) := by decide +kernel
theorem dX9_most_28 : decode cX9_most 28 = .ok (.getfield 208, 3) := by decide +kernel
theorem dX9_most_31 : decode cX9_most 31 = .ok (.ireturn, 1) := by decide +kernel
theorem dX9_when_0 : decode cX9_when 0 = .ok (.aload_n 0, 1) := by decide +kernel
theorem dX9_when_1 : decode cX9_when 1 = .ok (.iload_n 1, 1) := by decide +kernel
theorem dX9_when_2 : decode cX9_when 2 = .ok (.invokevirtual 142, 3) := by decide +kernel
theorem dX9_when_5 : decode cX9_when 5 = .ok (.ifCond .ne 6, 3) := by decide +kernel
theorem dX9_when_8 : decode cX9_when 8 = .ok (.bipush (-2), 2) := by decide +kernel
theorem dX9_when_10 : decode cX9_when 10 = .ok (.ireturn, 1) := by decide +kernel
theorem dX9_when_11 : decode cX9_when 11 = .ok (.aload_n 0, 1) := by decide +kernel
theorem dX9_when_12 : decode cX9_when 12 = .ok (.invokevirtual 211, 3) := by decide +kernel
theorem dX9_when_15 : decode cX9_when 15 = .ok (.aload_n 0, 1) := by decide +kernel
theorem dX9_when_16 : decode cX9_when 16 = .ok (.getfield 67, 3) := by decide +kernel
theorem dX9_when_19 : decode cX9_when 19 = .ok (.iload_n 1, 1) := by decide +kernel
theorem dX9_when_20 : decode cX9_when 20 = .ok (.iaload, 1) := by decide +kernel
theorem dX9_when_21 : decode cX9_when 21 = .ok (.ireturn, 1) := by decide +kernel
theorem dX9_planCostOf_0 : decode cX9_planCostOf 0 = .ok (.iconst 0, 1) := by decide +kernel
theorem dX9_planCostOf_1 : decode cX9_planCostOf 1 = .ok (.istore_n 2, 1) := by decide +kernel
theorem dX9_planCostOf_2 : decode cX9_planCostOf 2 = .ok (.iconst 0, 1) := by decide +kernel
theorem dX9_planCostOf_3 : decode cX9_planCostOf 3 = .ok (.istore_n 3, 1) := by decide +kernel
theorem dX9_planCostOf_4 : decode cX9_planCostOf 4 = .ok (.iload_n 3, 1) := by decide +kernel
theorem dX9_planCostOf_5 : decode cX9_planCostOf 5 = .ok (.aload_n 0, 1) := by decide +kernel
theorem dX9_planCostOf_6 : decode cX9_planCostOf 6 = .ok (.getfield 107, 3) := by decide +kernel
theorem dX9_planCostOf_9 : decode cX9_planCostOf 9 = .ok (.if_icmp .ge 32, 3) := by decide +kernel
theorem dX9_planCostOf_12 : decode cX9_planCostOf 12 = .ok (.aload_n 0, 1) := by decide +kernel
theorem dX9_planCostOf_13 : decode cX9_planCostOf 13 = .ok (.getfield 95, 3) := by decide +kernel
theorem dX9_planCostOf_16 : decode cX9_planCostOf 16 = .ok (.bipush 60, 2) := by decide +kernel
theorem dX9_planCostOf_18 : decode cX9_planCostOf 18 = .ok (.iload_n 1, 1) := by decide +kernel
theorem dX9_planCostOf_19 : decode cX9_planCostOf 19 = .ok (.imul, 1) := by decide +kernel
theorem dX9_planCostOf_20 : decode cX9_planCostOf 20 = .ok (.iload_n 3, 1) := by decide +kernel
theorem dX9_planCostOf_21 : decode cX9_planCostOf 21 = .ok (.iadd, 1) := by decide +kernel
theorem dX9_planCostOf_22 : decode cX9_planCostOf 22 = .ok (.iaload, 1) := by decide +kernel
theorem dX9_planCostOf_23 : decode cX9_planCostOf 23 = .ok (.iconst (-1), 1) := by decide +kernel
theorem dX9_planCostOf_24 : decode cX9_planCostOf 24 = .ok (.bipush 7, 2) := by decide +kernel
theorem dX9_planCostOf_26 : decode cX9_planCostOf 26 = .ok (.invokestatic 103, 3) := by decide +kernel
theorem dX9_planCostOf_29 : decode cX9_planCostOf 29 = .ok (.ifCond .ne 6, 3) := by decide +kernel
theorem dX9_planCostOf_32 : decode cX9_planCostOf 32 = .ok (.bipush (-3), 2) := by decide +kernel
theorem dX9_planCostOf_34 : decode cX9_planCostOf 34 = .ok (.ireturn, 1) := by decide +kernel
theorem dX9_planCostOf_35 : decode cX9_planCostOf 35 = .ok (.iinc 3 1, 3) := by decide +kernel
theorem dX9_planCostOf_38 : decode cX9_planCostOf 38 = .ok (.goto (-34), 3) := by decide +kernel
theorem dX9_planCostOf_41 : decode cX9_planCostOf 41 = .ok (.iconst 0, 1) := by decide +kernel
theorem dX9_planCostOf_42 : decode cX9_planCostOf 42 = .ok (.istore_n 3, 1) := by decide +kernel
theorem dX9_planCostOf_43 : decode cX9_planCostOf 43 = .ok (.iload_n 3, 1) := by decide +kernel
theorem dX9_planCostOf_44 : decode cX9_planCostOf 44 = .ok (.bipush 8, 2) := by decide +kernel
theorem dX9_planCostOf_46 : decode cX9_planCostOf 46 = .ok (.if_icmp .ge 83, 3) := by decide +kernel
theorem dX9_planCostOf_49 : decode cX9_planCostOf 49 = .ok (.iconst 0, 1) := by decide +kernel
theorem dX9_planCostOf_50 : decode cX9_planCostOf 50 = .ok (.istore 4, 2) := by decide +kernel
theorem dX9_planCostOf_52 : decode cX9_planCostOf 52 = .ok (.iconst 0, 1) := by decide +kernel
theorem dX9_planCostOf_53 : decode cX9_planCostOf 53 = .ok (.istore 5, 2) := by decide +kernel
theorem dX9_planCostOf_55 : decode cX9_planCostOf 55 = .ok (.iload 5, 2) := by decide +kernel
theorem dX9_planCostOf_57 : decode cX9_planCostOf 57 = .ok (.aload_n 0, 1) := by decide +kernel
theorem dX9_planCostOf_58 : decode cX9_planCostOf 58 = .ok (.getfield 107, 3) := by decide +kernel
theorem dX9_planCostOf_61 : decode cX9_planCostOf 61 = .ok (.if_icmp .ge 38, 3) := by decide +kernel
theorem dX9_planCostOf_64 : decode cX9_planCostOf 64 = .ok (.iload 4, 2) := by decide +kernel
theorem dX9_planCostOf_66 : decode cX9_planCostOf 66 = .ok (.aload_n 0, 1) := by decide +kernel
theorem dX9_planCostOf_67 : decode cX9_planCostOf 67 = .ok (.getfield 95, 3) := by decide +kernel
theorem dX9_planCostOf_70 : decode cX9_planCostOf 70 = .ok (.bipush 60, 2) := by decide +kernel
theorem dX9_planCostOf_72 : decode cX9_planCostOf 72 = .ok (.iload_n 1, 1) := by decide +kernel
theorem dX9_planCostOf_73 : decode cX9_planCostOf 73 = .ok (.imul, 1) := by decide +kernel
theorem dX9_planCostOf_74 : decode cX9_planCostOf 74 = .ok (.iload 5, 2) := by decide +kernel
theorem dX9_planCostOf_76 : decode cX9_planCostOf 76 = .ok (.iadd, 1) := by decide +kernel
theorem dX9_planCostOf_77 : decode cX9_planCostOf 77 = .ok (.iaload, 1) := by decide +kernel
theorem dX9_planCostOf_78 : decode cX9_planCostOf 78 = .ok (.iload_n 3, 1) := by decide +kernel
theorem dX9_planCostOf_79 : decode cX9_planCostOf 79 = .ok (.if_icmp .ne 10, 3) := by decide +kernel
theorem dX9_planCostOf_82 : decode cX9_planCostOf 82 = .ok (.iconst 1, 1) := by decide +kernel
theorem dX9_planCostOf_83 : decode cX9_planCostOf 83 = .ok (.iload 5, 2) := by decide +kernel
theorem dX9_planCostOf_85 : decode cX9_planCostOf 85 = .ok (.ishl, 1) := by decide +kernel
theorem dX9_planCostOf_86 : decode cX9_planCostOf 86 = .ok (.goto 4, 3) := by decide +kernel
theorem dX9_planCostOf_89 : decode cX9_planCostOf 89 = .ok (.iconst 0, 1) := by decide +kernel
theorem dX9_planCostOf_90 : decode cX9_planCostOf 90 = .ok (.ior, 1) := by decide +kernel
theorem dX9_planCostOf_91 : decode cX9_planCostOf 91 = .ok (.istore 4, 2) := by decide +kernel
theorem dX9_planCostOf_93 : decode cX9_planCostOf 93 = .ok (.iinc 5 1, 3) := by decide +kernel
theorem dX9_planCostOf_96 : decode cX9_planCostOf 96 = .ok (.goto (-41), 3) := by decide +kernel
theorem dX9_planCostOf_99 : decode cX9_planCostOf 99 = .ok (.aload_n 0, 1) := by decide +kernel
theorem dX9_planCostOf_100 : decode cX9_planCostOf 100 = .ok (.iload 4, 2) := by decide +kernel
theorem dX9_planCostOf_102 : decode cX9_planCostOf 102 = .ok (.iload_n 3, 1) := by decide +kernel
theorem dX9_planCostOf_103 : decode cX9_planCostOf 103 = .ok (.invokevirtual 198, 3) := by decide +kernel
theorem dX9_planCostOf_106 : decode cX9_planCostOf 106 = .ok (.istore 5, 2) := by decide +kernel
theorem dX9_planCostOf_108 : decode cX9_planCostOf 108 = .ok (.iload 5, 2) := by decide +kernel
theorem dX9_planCostOf_110 : decode cX9_planCostOf 110 = .ok (.ldc 188, 2) := by decide +kernel
theorem dX9_planCostOf_112 : decode cX9_planCostOf 112 = .ok (.if_icmp .lt 6, 3) := by decide +kernel
theorem dX9_planCostOf_115 : decode cX9_planCostOf 115 = .ok (.bipush (-3), 2) := by decide +kernel
theorem dX9_planCostOf_117 : decode cX9_planCostOf 117 = .ok (.ireturn, 1) := by decide +kernel
theorem dX9_planCostOf_118 : decode cX9_planCostOf 118 = .ok (.iload_n 2, 1) := by decide +kernel
theorem dX9_planCostOf_119 : decode cX9_planCostOf 119 = .ok (.iload 5, 2) := by decide +kernel
theorem dX9_planCostOf_121 : decode cX9_planCostOf 121 = .ok (.iadd, 1) := by decide +kernel
theorem dX9_planCostOf_122 : decode cX9_planCostOf 122 = .ok (.istore_n 2, 1) := by decide +kernel
theorem dX9_planCostOf_123 : decode cX9_planCostOf 123 = .ok (.iinc 3 1, 3) := by decide +kernel
theorem dX9_planCostOf_126 : decode cX9_planCostOf 126 = .ok (.goto (-83), 3) := by decide +kernel
theorem dX9_planCostOf_129 : decode cX9_planCostOf 129 = .ok (.iload_n 2, 1) := by decide +kernel
theorem dX9_planCostOf_130 : decode cX9_planCostOf 130 = .ok (.ireturn, 1) := by decide +kernel
theorem dX9_planOf_0 : decode cX9_planOf 0 = .ok (.aload_n 0, 1) := by decide +kernel
theorem dX9_planOf_1 : decode cX9_planOf 1 = .ok (.invokevirtual 139, 3) := by decide +kernel
theorem dX9_planOf_4 : decode cX9_planOf 4 = .ok (.aload_n 0, 1) := by decide +kernel
theorem dX9_planOf_5 : decode cX9_planOf 5 = .ok (.getfield 92, 3) := by decide +kernel
theorem dX9_planOf_8 : decode cX9_planOf 8 = .ok (.iload_n 1, 1) := by decide +kernel
theorem dX9_planOf_9 : decode cX9_planOf 9 = .ok (.iaload, 1) := by decide +kernel
theorem dX9_planOf_10 : decode cX9_planOf 10 = .ok (.aload_n 0, 1) := by decide +kernel
theorem dX9_planOf_11 : decode cX9_planOf 11 = .ok (.getfield 107, 3) := by decide +kernel
theorem dX9_planOf_14 : decode cX9_planOf 14 = .ok (.if_icmp .ge 6, 3) := by decide +kernel
theorem dX9_planOf_17 : decode cX9_planOf 17 = .ok (.bipush (-3), 2) := by decide +kernel
theorem dX9_planOf_19 : decode cX9_planOf 19 = .ok (.ireturn, 1) := by decide +kernel
theorem dX9_planOf_20 : decode cX9_planOf 20 = .ok (.aload_n 0, 1) := by decide +kernel
theorem dX9_planOf_21 : decode cX9_planOf 21 = .ok (.iload_n 1, 1) := by decide +kernel
theorem dX9_planOf_22 : decode cX9_planOf 22 = .ok (.invokevirtual 214, 3) := by decide +kernel
theorem dX9_planOf_25 : decode cX9_planOf 25 = .ok (.istore_n 3, 1) := by decide +kernel
theorem dX9_planOf_26 : decode cX9_planOf 26 = .ok (.iload_n 2, 1) := by decide +kernel
theorem dX9_planOf_27 : decode cX9_planOf 27 = .ok (.ifCond .ne 15, 3) := by decide +kernel
theorem dX9_planOf_30 : decode cX9_planOf 30 = .ok (.iload_n 3, 1) := by decide +kernel
theorem dX9_planOf_31 : decode cX9_planOf 31 = .ok (.bipush (-3), 2) := by decide +kernel
theorem dX9_planOf_33 : decode cX9_planOf 33 = .ok (.if_icmp .ne 7, 3) := by decide +kernel
theorem dX9_planOf_36 : decode cX9_planOf 36 = .ok (.iconst 0, 1) := by decide +kernel
theorem dX9_planOf_37 : decode cX9_planOf 37 = .ok (.goto 4, 3) := by decide +kernel
theorem dX9_planOf_40 : decode cX9_planOf 40 = .ok (.iconst 1, 1) := by decide +kernel
theorem dX9_planOf_41 : decode cX9_planOf 41 = .ok (.ireturn, 1) := by decide +kernel
theorem dX9_planOf_42 : decode cX9_planOf 42 = .ok (.iconst 0, 1) := by decide +kernel
theorem dX9_planOf_43 : decode cX9_planOf 43 = .ok (.istore 4, 2) := by decide +kernel
theorem dX9_planOf_45 : decode cX9_planOf 45 = .ok (.iconst 0, 1) := by decide +kernel
theorem dX9_planOf_46 : decode cX9_planOf 46 = .ok (.istore 5, 2) := by decide +kernel
theorem dX9_planOf_48 : decode cX9_planOf 48 = .ok (.iload 5, 2) := by decide +kernel
theorem dX9_planOf_50 : decode cX9_planOf 50 = .ok (.aload_n 0, 1) := by decide +kernel
theorem dX9_planOf_51 : decode cX9_planOf 51 = .ok (.getfield 107, 3) := by decide +kernel
theorem dX9_planOf_54 : decode cX9_planOf 54 = .ok (.if_icmp .ge 41, 3) := by decide +kernel
theorem dX9_planOf_57 : decode cX9_planOf 57 = .ok (.iload 4, 2) := by decide +kernel
theorem dX9_planOf_59 : decode cX9_planOf 59 = .ok (.aload_n 0, 1) := by decide +kernel
theorem dX9_planOf_60 : decode cX9_planOf 60 = .ok (.getfield 95, 3) := by decide +kernel
theorem dX9_planOf_63 : decode cX9_planOf 63 = .ok (.bipush 60, 2) := by decide +kernel
theorem dX9_planOf_65 : decode cX9_planOf 65 = .ok (.iload_n 1, 1) := by decide +kernel
theorem dX9_planOf_66 : decode cX9_planOf 66 = .ok (.imul, 1) := by decide +kernel
theorem dX9_planOf_67 : decode cX9_planOf 67 = .ok (.iload 5, 2) := by decide +kernel
theorem dX9_planOf_69 : decode cX9_planOf 69 = .ok (.iadd, 1) := by decide +kernel
theorem dX9_planOf_70 : decode cX9_planOf 70 = .ok (.iaload, 1) := by decide +kernel
theorem dX9_planOf_71 : decode cX9_planOf 71 = .ok (.iconst (-1), 1) := by decide +kernel
theorem dX9_planOf_72 : decode cX9_planOf 72 = .ok (.if_icmp .ne 7, 3) := by decide +kernel
theorem dX9_planOf_75 : decode cX9_planOf 75 = .ok (.iconst 0, 1) := by decide +kernel
theorem dX9_planOf_76 : decode cX9_planOf 76 = .ok (.goto 10, 3) := by decide +kernel
theorem dX9_planOf_79 : decode cX9_planOf 79 = .ok (.aload_n 0, 1) := by decide +kernel
theorem dX9_planOf_80 : decode cX9_planOf 80 = .ok (.getfield 25, 3) := by decide +kernel
theorem dX9_planOf_83 : decode cX9_planOf 83 = .ok (.iload 5, 2) := by decide +kernel
theorem dX9_planOf_85 : decode cX9_planOf 85 = .ok (.iaload, 1) := by decide +kernel
theorem dX9_planOf_86 : decode cX9_planOf 86 = .ok (.iadd, 1) := by decide +kernel
theorem dX9_planOf_87 : decode cX9_planOf 87 = .ok (.istore 4, 2) := by decide +kernel
theorem dX9_planOf_89 : decode cX9_planOf 89 = .ok (.iinc 5 1, 3) := by decide +kernel
theorem dX9_planOf_92 : decode cX9_planOf 92 = .ok (.goto (-44), 3) := by decide +kernel
theorem dX9_planOf_95 : decode cX9_planOf 95 = .ok (.iload_n 3, 1) := by decide +kernel
theorem dX9_planOf_96 : decode cX9_planOf 96 = .ok (.bipush (-3), 2) := by decide +kernel
theorem dX9_planOf_98 : decode cX9_planOf 98 = .ok (.if_icmp .ne 8, 3) := by decide +kernel
theorem dX9_planOf_101 : decode cX9_planOf 101 = .ok (.bipush (-3), 2) := by decide +kernel
theorem dX9_planOf_103 : decode cX9_planOf 103 = .ok (.goto 14, 3) := by decide +kernel
theorem dX9_planOf_106 : decode cX9_planOf 106 = .ok (.iload_n 2, 1) := by decide +kernel
theorem dX9_planOf_107 : decode cX9_planOf 107 = .ok (.iconst 1, 1) := by decide +kernel
theorem dX9_planOf_108 : decode cX9_planOf 108 = .ok (.if_icmp .ne 8, 3) := by decide +kernel
theorem dX9_planOf_111 : decode cX9_planOf 111 = .ok (.iload 4, 2) := by decide +kernel
theorem dX9_planOf_113 : decode cX9_planOf 113 = .ok (.goto 4, 3) := by decide +kernel
theorem dX9_planOf_116 : decode cX9_planOf 116 = .ok (.iload_n 3, 1) := by decide +kernel
theorem dX9_planOf_117 : decode cX9_planOf 117 = .ok (.ireturn, 1) := by decide +kernel
theorem dX9_plan_0 : decode cX9_plan 0 = .ok (.iload_n 1, 1) := by decide +kernel
theorem dX9_plan_1 : decode cX9_plan 1 = .ok (.invokestatic 158, 3) := by decide +kernel
theorem dX9_plan_4 : decode cX9_plan 4 = .ok (.ifCond .eq 12, 3) := by decide +kernel
theorem dX9_plan_7 : decode cX9_plan 7 = .ok (.iload_n 2, 1) := by decide +kernel
theorem dX9_plan_8 : decode cX9_plan 8 = .ok (.iconst 0, 1) := by decide +kernel
theorem dX9_plan_9 : decode cX9_plan 9 = .ok (.iconst 2, 1) := by decide +kernel
theorem dX9_plan_10 : decode cX9_plan 10 = .ok (.invokestatic 103, 3) := by decide +kernel
theorem dX9_plan_13 : decode cX9_plan 13 = .ok (.ifCond .ne 6, 3) := by decide +kernel
theorem dX9_plan_16 : decode cX9_plan 16 = .ok (.bipush (-2), 2) := by decide +kernel
theorem dX9_plan_18 : decode cX9_plan 18 = .ok (.ireturn, 1) := by decide +kernel
theorem dX9_plan_19 : decode cX9_plan 19 = .ok (.aload_n 0, 1) := by decide +kernel
theorem dX9_plan_20 : decode cX9_plan 20 = .ok (.getfield 85, 3) := by decide +kernel
theorem dX9_plan_23 : decode cX9_plan 23 = .ok (.iload_n 1, 1) := by decide +kernel
theorem dX9_plan_24 : decode cX9_plan 24 = .ok (.baload, 1) := by decide +kernel
theorem dX9_plan_25 : decode cX9_plan 25 = .ok (.ifCond .eq 12, 3) := by decide +kernel
theorem dX9_plan_28 : decode cX9_plan 28 = .ok (.aload_n 0, 1) := by decide +kernel
theorem dX9_plan_29 : decode cX9_plan 29 = .ok (.iload_n 1, 1) := by decide +kernel
theorem dX9_plan_30 : decode cX9_plan 30 = .ok (.iload_n 2, 1) := by decide +kernel
theorem dX9_plan_31 : decode cX9_plan 31 = .ok (.invokevirtual 217, 3) := by decide +kernel
theorem dX9_plan_34 : decode cX9_plan 34 = .ok (.goto 8, 3) := by decide +kernel
theorem dX9_plan_37 : decode cX9_plan 37 = .ok (.aload_n 0, 1) := by decide +kernel
theorem dX9_plan_38 : decode cX9_plan 38 = .ok (.iconst 1, 1) := by decide +kernel
theorem dX9_plan_39 : decode cX9_plan 39 = .ok (.invokevirtual 161, 3) := by decide +kernel
theorem dX9_plan_42 : decode cX9_plan 42 = .ok (.ireturn, 1) := by decide +kernel
theorem dX9_askedOf_0 : decode cX9_askedOf 0 = .ok (.iconst 0, 1) := by decide +kernel
theorem dX9_askedOf_1 : decode cX9_askedOf 1 = .ok (.istore_n 3, 1) := by decide +kernel
theorem dX9_askedOf_2 : decode cX9_askedOf 2 = .ok (.iconst 0, 1) := by decide +kernel
theorem dX9_askedOf_3 : decode cX9_askedOf 3 = .ok (.istore 4, 2) := by decide +kernel
theorem dX9_askedOf_5 : decode cX9_askedOf 5 = .ok (.iload 4, 2) := by decide +kernel
theorem dX9_askedOf_7 : decode cX9_askedOf 7 = .ok (.aload_n 0, 1) := by decide +kernel
theorem dX9_askedOf_8 : decode cX9_askedOf 8 = .ok (.getfield 107, 3) := by decide +kernel
theorem dX9_askedOf_11 : decode cX9_askedOf 11 = .ok (.if_icmp .ge 42, 3) := by decide +kernel
theorem dX9_askedOf_14 : decode cX9_askedOf 14 = .ok (.aload_n 0, 1) := by decide +kernel
theorem dX9_askedOf_15 : decode cX9_askedOf 15 = .ok (.iload 4, 2) := by decide +kernel
theorem dX9_askedOf_17 : decode cX9_askedOf 17 = .ok (.iload_n 2, 1) := by decide +kernel
theorem dX9_askedOf_18 : decode cX9_askedOf 18 = .ok (.invokevirtual 173, 3) := by decide +kernel
theorem dX9_askedOf_21 : decode cX9_askedOf 21 = .ok (.istore 5, 2) := by decide +kernel
theorem dX9_askedOf_23 : decode cX9_askedOf 23 = .ok (.iload_n 3, 1) := by decide +kernel
theorem dX9_askedOf_24 : decode cX9_askedOf 24 = .ok (.iload 5, 2) := by decide +kernel
theorem dX9_askedOf_26 : decode cX9_askedOf 26 = .ok (.bipush (-3), 2) := by decide +kernel
theorem dX9_askedOf_28 : decode cX9_askedOf 28 = .ok (.if_icmp .eq 16, 3) := by decide +kernel
theorem dX9_askedOf_31 : decode cX9_askedOf 31 = .ok (.iload 5, 2) := by decide +kernel
theorem dX9_askedOf_33 : decode cX9_askedOf 33 = .ok (.iload_n 1, 1) := by decide +kernel
theorem dX9_askedOf_34 : decode cX9_askedOf 34 = .ok (.invokestatic 119, 3) := by decide +kernel
theorem dX9_askedOf_37 : decode cX9_askedOf 37 = .ok (.ifCond .eq 7, 3) := by decide +kernel
theorem dX9_askedOf_40 : decode cX9_askedOf 40 = .ok (.iconst 1, 1) := by decide +kernel
theorem dX9_askedOf_41 : decode cX9_askedOf 41 = .ok (.goto 4, 3) := by decide +kernel
theorem dX9_askedOf_44 : decode cX9_askedOf 44 = .ok (.iconst 0, 1) := by decide +kernel
theorem dX9_askedOf_45 : decode cX9_askedOf 45 = .ok (.iadd, 1) := by decide +kernel
theorem dX9_askedOf_46 : decode cX9_askedOf 46 = .ok (.istore_n 3, 1) := by decide +kernel
theorem dX9_askedOf_47 : decode cX9_askedOf 47 = .ok (.iinc 4 1, 3) := by decide +kernel
theorem dX9_askedOf_50 : decode cX9_askedOf 50 = .ok (.goto (-45), 3) := by decide +kernel
theorem dX9_askedOf_53 : decode cX9_askedOf 53 = .ok (.iload_n 3, 1) := by decide +kernel
theorem dX9_askedOf_54 : decode cX9_askedOf 54 = .ok (.ireturn, 1) := by decide +kernel
theorem dX9_asked_0 : decode cX9_asked 0 = .ok (.iload_n 1, 1) := by decide +kernel
theorem dX9_asked_1 : decode cX9_asked 1 = .ok (.invokestatic 152, 3) := by decide +kernel
theorem dX9_asked_4 : decode cX9_asked 4 = .ok (.ifCond .eq 10, 3) := by decide +kernel
theorem dX9_asked_7 : decode cX9_asked 7 = .ok (.iload_n 2, 1) := by decide +kernel
theorem dX9_asked_8 : decode cX9_asked 8 = .ok (.invokestatic 155, 3) := by decide +kernel
theorem dX9_asked_11 : decode cX9_asked 11 = .ok (.ifCond .ne 6, 3) := by decide +kernel
theorem dX9_asked_14 : decode cX9_asked 14 = .ok (.bipush (-2), 2) := by decide +kernel
theorem dX9_asked_16 : decode cX9_asked 16 = .ok (.ireturn, 1) := by decide +kernel
theorem dX9_asked_17 : decode cX9_asked 17 = .ok (.aload_n 0, 1) := by decide +kernel
theorem dX9_asked_18 : decode cX9_asked 18 = .ok (.invokevirtual 139, 3) := by decide +kernel
theorem dX9_asked_21 : decode cX9_asked 21 = .ok (.aload_n 0, 1) := by decide +kernel
theorem dX9_asked_22 : decode cX9_asked 22 = .ok (.iload_n 1, 1) := by decide +kernel
theorem dX9_asked_23 : decode cX9_asked 23 = .ok (.iload_n 2, 1) := by decide +kernel
theorem dX9_asked_24 : decode cX9_asked 24 = .ok (.invokevirtual 220, 3) := by decide +kernel
theorem dX9_asked_27 : decode cX9_asked 27 = .ok (.ireturn, 1) := by decide +kernel
theorem dX9_crowdOf_0 : decode cX9_crowdOf 0 = .ok (.aload_n 0, 1) := by decide +kernel
theorem dX9_crowdOf_1 : decode cX9_crowdOf 1 = .ok (.invokevirtual 139, 3) := by decide +kernel
theorem dX9_crowdOf_4 : decode cX9_crowdOf 4 = .ok (.iconst (-1), 1) := by decide +kernel
theorem dX9_crowdOf_5 : decode cX9_crowdOf 5 = .ok (.istore_n 2, 1) := by decide +kernel
theorem dX9_crowdOf_6 : decode cX9_crowdOf 6 = .ok (.iconst 0, 1) := by decide +kernel
theorem dX9_crowdOf_7 : decode cX9_crowdOf 7 = .ok (.istore_n 3, 1) := by decide +kernel
theorem dX9_crowdOf_8 : decode cX9_crowdOf 8 = .ok (.iconst 0, 1) := by decide +kernel
theorem dX9_crowdOf_9 : decode cX9_crowdOf 9 = .ok (.istore 4, 2) := by decide +kernel
theorem dX9_crowdOf_11 : decode cX9_crowdOf 11 = .ok (.iload 4, 2) := by decide +kernel
theorem dX9_crowdOf_13 : decode cX9_crowdOf 13 = .ok (.bipush 64, 2) := by decide +kernel
theorem dX9_crowdOf_15 : decode cX9_crowdOf 15 = .ok (.if_icmp .ge 51, 3) := by decide +kernel
theorem dX9_crowdOf_18 : decode cX9_crowdOf 18 = .ok (.aload_n 0, 1) := by decide +kernel
theorem dX9_crowdOf_19 : decode cX9_crowdOf 19 = .ok (.iload 4, 2) := by decide +kernel
theorem dX9_crowdOf_21 : decode cX9_crowdOf 21 = .ok (.bipush 8, 2) := by decide +kernel
theorem dX9_crowdOf_23 : decode cX9_crowdOf 23 = .ok (.idiv, 1) := by decide +kernel
theorem dX9_crowdOf_24 : decode cX9_crowdOf 24 = .ok (.iload 4, 2) := by decide +kernel
theorem dX9_crowdOf_26 : decode cX9_crowdOf 26 = .ok (.bipush 8, 2) := by decide +kernel
theorem dX9_crowdOf_28 : decode cX9_crowdOf 28 = .ok (.irem, 1) := by decide +kernel
theorem dX9_crowdOf_29 : decode cX9_crowdOf 29 = .ok (.invokevirtual 220, 3) := by decide +kernel
theorem dX9_crowdOf_32 : decode cX9_crowdOf 32 = .ok (.istore 5, 2) := by decide +kernel
theorem dX9_crowdOf_34 : decode cX9_crowdOf 34 = .ok (.iload 5, 2) := by decide +kernel
theorem dX9_crowdOf_36 : decode cX9_crowdOf 36 = .ok (.iload_n 3, 1) := by decide +kernel
theorem dX9_crowdOf_37 : decode cX9_crowdOf 37 = .ok (.if_icmp .le 8, 3) := by decide +kernel
theorem dX9_crowdOf_40 : decode cX9_crowdOf 40 = .ok (.iload 4, 2) := by decide +kernel
theorem dX9_crowdOf_42 : decode cX9_crowdOf 42 = .ok (.goto 4, 3) := by decide +kernel
theorem dX9_crowdOf_45 : decode cX9_crowdOf 45 = .ok (.iload_n 2, 1) := by decide +kernel
theorem dX9_crowdOf_46 : decode cX9_crowdOf 46 = .ok (.istore_n 2, 1) := by decide +kernel
theorem dX9_crowdOf_47 : decode cX9_crowdOf 47 = .ok (.iload 5, 2) := by decide +kernel
theorem dX9_crowdOf_49 : decode cX9_crowdOf 49 = .ok (.iload_n 3, 1) := by decide +kernel
theorem dX9_crowdOf_50 : decode cX9_crowdOf 50 = .ok (.if_icmp .le 8, 3) := by decide +kernel
theorem dX9_crowdOf_53 : decode cX9_crowdOf 53 = .ok (.iload 5, 2) := by decide +kernel
theorem dX9_crowdOf_55 : decode cX9_crowdOf 55 = .ok (.goto 4, 3) := by decide +kernel
theorem dX9_crowdOf_58 : decode cX9_crowdOf 58 = .ok (.iload_n 3, 1) := by decide +kernel
theorem dX9_crowdOf_59 : decode cX9_crowdOf 59 = .ok (.istore_n 3, 1) := by decide +kernel
theorem dX9_crowdOf_60 : decode cX9_crowdOf 60 = .ok (.iinc 4 1, 3) := by decide +kernel
theorem dX9_crowdOf_63 : decode cX9_crowdOf 63 = .ok (.goto (-52), 3) := by decide +kernel
theorem dX9_crowdOf_66 : decode cX9_crowdOf 66 = .ok (.iload_n 1, 1) := by decide +kernel
theorem dX9_crowdOf_67 : decode cX9_crowdOf 67 = .ok (.iconst 2, 1) := by decide +kernel
theorem dX9_crowdOf_68 : decode cX9_crowdOf 68 = .ok (.if_icmp .ne 7, 3) := by decide +kernel
theorem dX9_crowdOf_71 : decode cX9_crowdOf 71 = .ok (.iload_n 3, 1) := by decide +kernel
theorem dX9_crowdOf_72 : decode cX9_crowdOf 72 = .ok (.goto 27, 3) := by decide +kernel
theorem dX9_crowdOf_75 : decode cX9_crowdOf 75 = .ok (.iload_n 2, 1) := by decide +kernel
theorem dX9_crowdOf_76 : decode cX9_crowdOf 76 = .ok (.iconst (-1), 1) := by decide +kernel
theorem dX9_crowdOf_77 : decode cX9_crowdOf 77 = .ok (.if_icmp .ne 7, 3) := by decide +kernel
theorem dX9_crowdOf_80 : decode cX9_crowdOf 80 = .ok (.iconst (-1), 1) := by decide +kernel
theorem dX9_crowdOf_81 : decode cX9_crowdOf 81 = .ok (.goto 18, 3) := by decide +kernel
theorem dX9_crowdOf_84 : decode cX9_crowdOf 84 = .ok (.iload_n 1, 1) := by decide +kernel
theorem dX9_crowdOf_85 : decode cX9_crowdOf 85 = .ok (.ifCond .ne 10, 3) := by decide +kernel
theorem dX9_crowdOf_88 : decode cX9_crowdOf 88 = .ok (.iload_n 2, 1) := by decide +kernel
theorem dX9_crowdOf_89 : decode cX9_crowdOf 89 = .ok (.bipush 8, 2) := by decide +kernel
theorem dX9_crowdOf_91 : decode cX9_crowdOf 91 = .ok (.idiv, 1) := by decide +kernel
theorem dX9_crowdOf_92 : decode cX9_crowdOf 92 = .ok (.goto 7, 3) := by decide +kernel
theorem dX9_crowdOf_95 : decode cX9_crowdOf 95 = .ok (.iload_n 2, 1) := by decide +kernel
theorem dX9_crowdOf_96 : decode cX9_crowdOf 96 = .ok (.bipush 8, 2) := by decide +kernel
theorem dX9_crowdOf_98 : decode cX9_crowdOf 98 = .ok (.irem, 1) := by decide +kernel
theorem dX9_crowdOf_99 : decode cX9_crowdOf 99 = .ok (.ireturn, 1) := by decide +kernel
theorem dX9_crowd_0 : decode cX9_crowd 0 = .ok (.iload_n 1, 1) := by decide +kernel
theorem dX9_crowd_1 : decode cX9_crowd 1 = .ok (.iconst 0, 1) := by decide +kernel
theorem dX9_crowd_2 : decode cX9_crowd 2 = .ok (.iconst 2, 1) := by decide +kernel
theorem dX9_crowd_3 : decode cX9_crowd 3 = .ok (.invokestatic 103, 3) := by decide +kernel
theorem dX9_crowd_6 : decode cX9_crowd 6 = .ok (.ifCond .eq 11, 3) := by decide +kernel
theorem dX9_crowd_9 : decode cX9_crowd 9 = .ok (.aload_n 0, 1) := by decide +kernel
theorem dX9_crowd_10 : decode cX9_crowd 10 = .ok (.iload_n 1, 1) := by decide +kernel
theorem dX9_crowd_11 : decode cX9_crowd 11 = .ok (.invokevirtual 223, 3) := by decide +kernel
theorem dX9_crowd_14 : decode cX9_crowd 14 = .ok (.goto 5, 3) := by decide +kernel
theorem dX9_crowd_17 : decode cX9_crowd 17 = .ok (.bipush (-2), 2) := by decide +kernel
theorem dX9_crowd_19 : decode cX9_crowd 19 = .ok (.ireturn, 1) := by decide +kernel
theorem dX9_likenessOf_0 : decode cX9_likenessOf 0 = .ok (.aload_n 0, 1) := by decide +kernel
theorem dX9_likenessOf_1 : decode cX9_likenessOf 1 = .ok (.iload_n 1, 1) := by decide +kernel
theorem dX9_likenessOf_2 : decode cX9_likenessOf 2 = .ok (.iload_n 2, 1) := by decide +kernel
theorem dX9_likenessOf_3 : decode cX9_likenessOf 3 = .ok (.invokevirtual 173, 3) := by decide +kernel
theorem dX9_likenessOf_6 : decode cX9_likenessOf 6 = .ok (.istore_n 3, 1) := by decide +kernel
theorem dX9_likenessOf_7 : decode cX9_likenessOf 7 = .ok (.iload_n 3, 1) := by decide +kernel
theorem dX9_likenessOf_8 : decode cX9_likenessOf 8 = .ok (.bipush (-3), 2) := by decide +kernel
theorem dX9_likenessOf_10 : decode cX9_likenessOf 10 = .ok (.if_icmp .ne 6, 3) := by decide +kernel
theorem dX9_likenessOf_13 : decode cX9_likenessOf 13 = .ok (.bipush (-3), 2) := by decide +kernel
theorem dX9_likenessOf_15 : decode cX9_likenessOf 15 = .ok (.ireturn, 1) := by decide +kernel
theorem dX9_likenessOf_16 : decode cX9_likenessOf 16 = .ok (.aload_n 0, 1) := by decide +kernel
theorem dX9_likenessOf_17 : decode cX9_likenessOf 17 = .ok (.getfield 52, 3) := by decide +kernel
theorem dX9_likenessOf_20 : decode cX9_likenessOf 20 = .ok (.iload_n 2, 1) := by decide +kernel
theorem dX9_likenessOf_21 : decode cX9_likenessOf 21 = .ok (.iaload, 1) := by decide +kernel
theorem dX9_likenessOf_22 : decode cX9_likenessOf 22 = .ok (.aload_n 0, 1) := by decide +kernel
theorem dX9_likenessOf_23 : decode cX9_likenessOf 23 = .ok (.getfield 22, 3) := by decide +kernel
theorem dX9_likenessOf_26 : decode cX9_likenessOf 26 = .ok (.iload_n 1, 1) := by decide +kernel
theorem dX9_likenessOf_27 : decode cX9_likenessOf 27 = .ok (.iaload, 1) := by decide +kernel
theorem dX9_likenessOf_28 : decode cX9_likenessOf 28 = .ok (.if_icmp .eq 12, 3) := by decide +kernel
theorem dX9_likenessOf_31 : decode cX9_likenessOf 31 = .ok (.aload_n 0, 1) := by decide +kernel
theorem dX9_likenessOf_32 : decode cX9_likenessOf 32 = .ok (.iload_n 1, 1) := by decide +kernel
theorem dX9_likenessOf_33 : decode cX9_likenessOf 33 = .ok (.iload_n 2, 1) := by decide +kernel
theorem dX9_likenessOf_34 : decode cX9_likenessOf 34 = .ok (.invokevirtual 167, 3) := by decide +kernel
theorem dX9_likenessOf_37 : decode cX9_likenessOf 37 = .ok (.ifCond .eq 7, 3) := by decide +kernel
theorem dX9_likenessOf_40 : decode cX9_likenessOf 40 = .ok (.iconst 1, 1) := by decide +kernel
theorem dX9_likenessOf_41 : decode cX9_likenessOf 41 = .ok (.goto 4, 3) := by decide +kernel
theorem dX9_likenessOf_44 : decode cX9_likenessOf 44 = .ok (.iconst 0, 1) := by decide +kernel
theorem dX9_likenessOf_45 : decode cX9_likenessOf 45 = .ok (.istore 4, 2) := by decide +kernel
theorem dX9_likenessOf_47 : decode cX9_likenessOf 47 = .ok (.aload_n 0, 1) := by decide +kernel
theorem dX9_likenessOf_48 : decode cX9_likenessOf 48 = .ok (.getfield 37, 3) := by decide +kernel
theorem dX9_likenessOf_51 : decode cX9_likenessOf 51 = .ok (.aload_n 0, 1) := by decide +kernel
theorem dX9_likenessOf_52 : decode cX9_likenessOf 52 = .ok (.getfield 16, 3) := by decide +kernel
theorem dX9_likenessOf_55 : decode cX9_likenessOf 55 = .ok (.iload_n 1, 1) := by decide +kernel
theorem dX9_likenessOf_56 : decode cX9_likenessOf 56 = .ok (.iaload, 1) := by decide +kernel
theorem dX9_likenessOf_57 : decode cX9_likenessOf 57 = .ok (.iaload, 1) := by decide +kernel
theorem dX9_likenessOf_58 : decode cX9_likenessOf 58 = .ok (.iconst 1, 1) := by decide +kernel
theorem dX9_likenessOf_59 : decode cX9_likenessOf 59 = .ok (.if_icmp .ne 7, 3) := by decide +kernel
theorem dX9_likenessOf_62 : decode cX9_likenessOf 62 = .ok (.iconst 4, 1) := by decide +kernel
theorem dX9_likenessOf_63 : decode cX9_likenessOf 63 = .ok (.goto 4, 3) := by decide +kernel
theorem dX9_likenessOf_66 : decode cX9_likenessOf 66 = .ok (.iconst 0, 1) := by decide +kernel
theorem dX9_likenessOf_67 : decode cX9_likenessOf 67 = .ok (.iload 4, 2) := by decide +kernel
theorem dX9_likenessOf_69 : decode cX9_likenessOf 69 = .ok (.ifCond .eq 7, 3) := by decide +kernel
theorem dX9_likenessOf_72 : decode cX9_likenessOf 72 = .ok (.iconst 3, 1) := by decide +kernel
theorem dX9_likenessOf_73 : decode cX9_likenessOf 73 = .ok (.goto 4, 3) := by decide +kernel
theorem dX9_likenessOf_76 : decode cX9_likenessOf 76 = .ok (.iconst 0, 1) := by decide +kernel
theorem dX9_likenessOf_77 : decode cX9_likenessOf 77 = .ok (.iadd, 1) := by decide +kernel
theorem dX9_likenessOf_78 : decode cX9_likenessOf 78 = .ok (.iconst 3, 1) := by decide +kernel
theorem dX9_likenessOf_79 : decode cX9_likenessOf 79 = .ok (.iload_n 3, 1) := by decide +kernel
theorem dX9_likenessOf_80 : decode cX9_likenessOf 80 = .ok (.invokestatic 164, 3) := by decide +kernel
theorem dX9_likenessOf_83 : decode cX9_likenessOf 83 = .ok (.imul, 1) := by decide +kernel
theorem dX9_likenessOf_84 : decode cX9_likenessOf 84 = .ok (.aload_n 0, 1) := by decide +kernel
theorem dX9_likenessOf_85 : decode cX9_likenessOf 85 = .ok (.getfield 28, 3) := by decide +kernel
theorem dX9_likenessOf_88 : decode cX9_likenessOf 88 = .ok (.iload_n 1, 1) := by decide +kernel
theorem dX9_likenessOf_89 : decode cX9_likenessOf 89 = .ok (.iaload, 1) := by decide +kernel
theorem dX9_likenessOf_90 : decode cX9_likenessOf 90 = .ok (.invokestatic 164, 3) := by decide +kernel
theorem dX9_likenessOf_93 : decode cX9_likenessOf 93 = .ok (.idiv, 1) := by decide +kernel
theorem dX9_likenessOf_94 : decode cX9_likenessOf 94 = .ok (.iadd, 1) := by decide +kernel
theorem dX9_likenessOf_95 : decode cX9_likenessOf 95 = .ok (.ireturn, 1) := by decide +kernel
theorem dX9_likeness_0 : decode cX9_likeness 0 = .ok (.aload_n 0, 1) := by decide +kernel
theorem dX9_likeness_1 : decode cX9_likeness 1 = .ok (.iload_n 1, 1) := by decide +kernel
theorem dX9_likeness_2 : decode cX9_likeness 2 = .ok (.invokevirtual 142, 3) := by decide +kernel
theorem dX9_likeness_5 : decode cX9_likeness 5 = .ok (.ifCond .eq 19, 3) := by decide +kernel
theorem dX9_likeness_8 : decode cX9_likeness 8 = .ok (.iload_n 2, 1) := by decide +kernel
theorem dX9_likeness_9 : decode cX9_likeness 9 = .ok (.invokestatic 155, 3) := by decide +kernel
theorem dX9_likeness_12 : decode cX9_likeness 12 = .ok (.ifCond .eq 12, 3) := by decide +kernel
theorem dX9_likeness_15 : decode cX9_likeness 15 = .ok (.aload_n 0, 1) := by decide +kernel
theorem dX9_likeness_16 : decode cX9_likeness 16 = .ok (.iload_n 1, 1) := by decide +kernel
theorem dX9_likeness_17 : decode cX9_likeness 17 = .ok (.iload_n 2, 1) := by decide +kernel
theorem dX9_likeness_18 : decode cX9_likeness 18 = .ok (.invokevirtual 226, 3) := by decide +kernel
theorem dX9_likeness_21 : decode cX9_likeness 21 = .ok (.goto 5, 3) := by decide +kernel
theorem dX9_likeness_24 : decode cX9_likeness 24 = .ok (.bipush (-2), 2) := by decide +kernel
theorem dX9_likeness_26 : decode cX9_likeness 26 = .ok (.ireturn, 1) := by decide +kernel
theorem dX9_oddsOf_0 : decode cX9_oddsOf 0 = .ok (.aload_n 0, 1) := by decide +kernel
theorem dX9_oddsOf_1 : decode cX9_oddsOf 1 = .ok (.iload_n 1, 1) := by decide +kernel
theorem dX9_oddsOf_2 : decode cX9_oddsOf 2 = .ok (.iload_n 2, 1) := by decide +kernel
theorem dX9_oddsOf_3 : decode cX9_oddsOf 3 = .ok (.invokevirtual 226, 3) := by decide +kernel
theorem dX9_oddsOf_6 : decode cX9_oddsOf 6 = .ok (.istore 4, 2) := by decide +kernel
theorem dX9_oddsOf_8 : decode cX9_oddsOf 8 = .ok (.iload 4, 2) := by decide +kernel
theorem dX9_oddsOf_10 : decode cX9_oddsOf 10 = .ok (.bipush (-3), 2) := by decide +kernel
theorem dX9_oddsOf_12 : decode cX9_oddsOf 12 = .ok (.if_icmp .ne 9, 3) := by decide +kernel
theorem dX9_oddsOf_15 : decode cX9_oddsOf 15 = .ok (.bipush (-3), 2) := by decide +kernel
theorem dX9_oddsOf_17 : decode cX9_oddsOf 17 = .ok (.invokestatic 229, 3) := by decide +kernel
theorem dX9_oddsOf_20 : decode cX9_oddsOf 20 = .ok (.lreturn, 1) := by decide +kernel
theorem dX9_oddsOf_21 : decode cX9_oddsOf 21 = .ok (.aload_n 0, 1) := by decide +kernel
theorem dX9_oddsOf_22 : decode cX9_oddsOf 22 = .ok (.iload_n 1, 1) := by decide +kernel
theorem dX9_oddsOf_23 : decode cX9_oddsOf 23 = .ok (.iload_n 2, 1) := by decide +kernel
theorem dX9_oddsOf_24 : decode cX9_oddsOf 24 = .ok (.invokevirtual 173, 3) := by decide +kernel
theorem dX9_oddsOf_27 : decode cX9_oddsOf 27 = .ok (.istore 5, 2) := by decide +kernel
theorem dX9_oddsOf_29 : decode cX9_oddsOf 29 = .ok (.lconst 1, 1) := by decide +kernel
theorem dX9_oddsOf_30 : decode cX9_oddsOf 30 = .ok (.lstore 6, 2) := by decide +kernel
theorem dX9_oddsOf_32 : decode cX9_oddsOf 32 = .ok (.lconst 1, 1) := by decide +kernel
theorem dX9_oddsOf_33 : decode cX9_oddsOf 33 = .ok (.lstore 8, 2) := by decide +kernel
theorem dX9_oddsOf_35 : decode cX9_oddsOf 35 = .ok (.iconst 0, 1) := by decide +kernel
theorem dX9_oddsOf_36 : decode cX9_oddsOf 36 = .ok (.istore 10, 2) := by decide +kernel
theorem dX9_oddsOf_38 : decode cX9_oddsOf 38 = .ok (.iload 10, 2) := by decide +kernel
theorem dX9_oddsOf_40 : decode cX9_oddsOf 40 = .ok (.bipush 8, 2) := by decide +kernel
theorem dX9_oddsOf_42 : decode cX9_oddsOf 42 = .ok (.if_icmp .ge 54, 3) := by decide +kernel
theorem dX9_oddsOf_45 : decode cX9_oddsOf 45 = .ok (.iload 5, 2) := by decide +kernel
theorem dX9_oddsOf_47 : decode cX9_oddsOf 47 = .ok (.iload 10, 2) := by decide +kernel
theorem dX9_oddsOf_49 : decode cX9_oddsOf 49 = .ok (.invokestatic 119, 3) := by decide +kernel
theorem dX9_oddsOf_52 : decode cX9_oddsOf 52 = .ok (.ifCond .eq 38, 3) := by decide +kernel
theorem dX9_oddsOf_55 : decode cX9_oddsOf 55 = .ok (.iload 4, 2) := by decide +kernel
theorem dX9_oddsOf_57 : decode cX9_oddsOf 57 = .ok (.aload_n 0, 1) := by decide +kernel
theorem dX9_oddsOf_58 : decode cX9_oddsOf 58 = .ok (.getfield 55, 3) := by decide +kernel
theorem dX9_oddsOf_61 : decode cX9_oddsOf 61 = .ok (.iconst 3, 1) := by decide +kernel
theorem dX9_oddsOf_62 : decode cX9_oddsOf 62 = .ok (.iaload, 1) := by decide +kernel
theorem dX9_oddsOf_63 : decode cX9_oddsOf 63 = .ok (.if_icmp .ge 27, 3) := by decide +kernel
theorem dX9_oddsOf_66 : decode cX9_oddsOf 66 = .ok (.lload 6, 2) := by decide +kernel
theorem dX9_oddsOf_68 : decode cX9_oddsOf 68 = .ok (.bipush 16, 2) := by decide +kernel
theorem dX9_oddsOf_70 : decode cX9_oddsOf 70 = .ok (.aload_n 0, 1) := by decide +kernel
theorem dX9_oddsOf_71 : decode cX9_oddsOf 71 = .ok (.getfield 49, 3) := by decide +kernel
theorem dX9_oddsOf_74 : decode cX9_oddsOf 74 = .ok (.iload 10, 2) := by decide +kernel
theorem dX9_oddsOf_76 : decode cX9_oddsOf 76 = .ok (.iaload, 1) := by decide +kernel
theorem dX9_oddsOf_77 : decode cX9_oddsOf 77 = .ok (.isub, 1) := by decide +kernel
theorem dX9_oddsOf_78 : decode cX9_oddsOf 78 = .ok (.i2l, 1) := by decide +kernel
theorem dX9_oddsOf_79 : decode cX9_oddsOf 79 = .ok (.lmul, 1) := by decide +kernel
theorem dX9_oddsOf_80 : decode cX9_oddsOf 80 = .ok (.lstore 6, 2) := by decide +kernel
theorem dX9_oddsOf_82 : decode cX9_oddsOf 82 = .ok (.lload 8, 2) := by decide +kernel
theorem dX9_oddsOf_84 : decode cX9_oddsOf 84 = .ok (.ldc2_w 233, 3) := by decide +kernel
theorem dX9_oddsOf_87 : decode cX9_oddsOf 87 = .ok (.lmul, 1) := by decide +kernel
theorem dX9_oddsOf_88 : decode cX9_oddsOf 88 = .ok (.lstore 8, 2) := by decide +kernel
theorem dX9_oddsOf_90 : decode cX9_oddsOf 90 = .ok (.iinc 10 1, 3) := by decide +kernel
theorem dX9_oddsOf_93 : decode cX9_oddsOf 93 = .ok (.goto (-55), 3) := by decide +kernel
theorem dX9_oddsOf_96 : decode cX9_oddsOf 96 = .ok (.lload 6, 2) := by decide +kernel
theorem dX9_oddsOf_98 : decode cX9_oddsOf 98 = .ok (.lload 8, 2) := by decide +kernel
theorem dX9_oddsOf_100 : decode cX9_oddsOf 100 = .ok (.iload_n 3, 1) := by decide +kernel
theorem dX9_oddsOf_101 : decode cX9_oddsOf 101 = .ok (.invokestatic 235, 3) := by decide +kernel
theorem dX9_oddsOf_104 : decode cX9_oddsOf 104 = .ok (.lreturn, 1) := by decide +kernel
theorem dX9_odds_0 : decode cX9_odds 0 = .ok (.aload_n 0, 1) := by decide +kernel
theorem dX9_odds_1 : decode cX9_odds 1 = .ok (.iload_n 1, 1) := by decide +kernel
theorem dX9_odds_2 : decode cX9_odds 2 = .ok (.invokevirtual 142, 3) := by decide +kernel
theorem dX9_odds_5 : decode cX9_odds 5 = .ok (.ifCond .eq 29, 3) := by decide +kernel
theorem dX9_odds_8 : decode cX9_odds 8 = .ok (.iload_n 2, 1) := by decide +kernel
theorem dX9_odds_9 : decode cX9_odds 9 = .ok (.invokestatic 155, 3) := by decide +kernel
theorem dX9_odds_12 : decode cX9_odds 12 = .ok (.ifCond .eq 22, 3) := by decide +kernel
theorem dX9_odds_15 : decode cX9_odds 15 = .ok (.iload_n 3, 1) := by decide +kernel
theorem dX9_odds_16 : decode cX9_odds 16 = .ok (.iconst 0, 1) := by decide +kernel
theorem dX9_odds_17 : decode cX9_odds 17 = .ok (.iconst 1, 1) := by decide +kernel
theorem dX9_odds_18 : decode cX9_odds 18 = .ok (.invokestatic 103, 3) := by decide +kernel
theorem dX9_odds_21 : decode cX9_odds 21 = .ok (.ifCond .eq 13, 3) := by decide +kernel
theorem dX9_odds_24 : decode cX9_odds 24 = .ok (.aload_n 0, 1) := by decide +kernel
theorem dX9_odds_25 : decode cX9_odds 25 = .ok (.iload_n 1, 1) := by decide +kernel
theorem dX9_odds_26 : decode cX9_odds 26 = .ok (.iload_n 2, 1) := by decide +kernel
theorem dX9_odds_27 : decode cX9_odds 27 = .ok (.iload_n 3, 1) := by decide +kernel
theorem dX9_odds_28 : decode cX9_odds 28 = .ok (.invokevirtual 239, 3) := by decide +kernel
theorem dX9_odds_31 : decode cX9_odds 31 = .ok (.goto 8, 3) := by decide +kernel
theorem dX9_odds_34 : decode cX9_odds 34 = .ok (.bipush (-2), 2) := by decide +kernel
theorem dX9_odds_36 : decode cX9_odds 36 = .ok (.invokestatic 229, 3) := by decide +kernel
theorem dX9_odds_39 : decode cX9_odds 39 = .ok (.lreturn, 1) := by decide +kernel
theorem dX9_seen_0 : decode cX9_seen 0 = .ok (.iload_n 1, 1) := by decide +kernel
theorem dX9_seen_1 : decode cX9_seen 1 = .ok (.invokestatic 152, 3) := by decide +kernel
theorem dX9_seen_4 : decode cX9_seen 4 = .ok (.ifCond .eq 19, 3) := by decide +kernel
theorem dX9_seen_7 : decode cX9_seen 7 = .ok (.iload_n 2, 1) := by decide +kernel
theorem dX9_seen_8 : decode cX9_seen 8 = .ok (.iconst 0, 1) := by decide +kernel
theorem dX9_seen_9 : decode cX9_seen 9 = .ok (.iconst 5, 1) := by decide +kernel
theorem dX9_seen_10 : decode cX9_seen 10 = .ok (.invokestatic 103, 3) := by decide +kernel
theorem dX9_seen_13 : decode cX9_seen 13 = .ok (.ifCond .eq 10, 3) := by decide +kernel
theorem dX9_seen_16 : decode cX9_seen 16 = .ok (.iload_n 3, 1) := by decide +kernel
theorem dX9_seen_17 : decode cX9_seen 17 = .ok (.invokestatic 155, 3) := by decide +kernel
theorem dX9_seen_20 : decode cX9_seen 20 = .ok (.ifCond .ne 6, 3) := by decide +kernel
theorem dX9_seen_23 : decode cX9_seen 23 = .ok (.bipush (-2), 2) := by decide +kernel
theorem dX9_seen_25 : decode cX9_seen 25 = .ok (.ireturn, 1) := by decide +kernel
theorem dX9_seen_26 : decode cX9_seen 26 = .ok (.aload_n 0, 1) := by decide +kernel
theorem dX9_seen_27 : decode cX9_seen 27 = .ok (.getfield 243, 3) := by decide +kernel
theorem dX9_seen_30 : decode cX9_seen 30 = .ok (.bipush 10, 2) := by decide +kernel
theorem dX9_seen_32 : decode cX9_seen 32 = .ok (.if_icmp .ne 6, 3) := by decide +kernel
theorem dX9_seen_35 : decode cX9_seen 35 = .ok (.bipush (-4), 2) := by decide +kernel
theorem dX9_seen_37 : decode cX9_seen 37 = .ok (.ireturn, 1) := by decide +kernel
theorem dX9_seen_38 : decode cX9_seen 38 = .ok (.aload_n 0, 1) := by decide +kernel
theorem dX9_seen_39 : decode cX9_seen 39 = .ok (.getfield 70, 3) := by decide +kernel
theorem dX9_seen_42 : decode cX9_seen 42 = .ok (.aload_n 0, 1) := by decide +kernel
theorem dX9_seen_43 : decode cX9_seen 43 = .ok (.getfield 243, 3) := by decide +kernel
theorem dX9_seen_46 : decode cX9_seen 46 = .ok (.iload_n 1, 1) := by decide +kernel
theorem dX9_seen_47 : decode cX9_seen 47 = .ok (.iastore, 1) := by decide +kernel
theorem dX9_seen_48 : decode cX9_seen 48 = .ok (.aload_n 0, 1) := by decide +kernel
theorem dX9_seen_49 : decode cX9_seen 49 = .ok (.getfield 73, 3) := by decide +kernel
theorem dX9_seen_52 : decode cX9_seen 52 = .ok (.aload_n 0, 1) := by decide +kernel
theorem dX9_seen_53 : decode cX9_seen 53 = .ok (.getfield 243, 3) := by decide +kernel
theorem dX9_seen_56 : decode cX9_seen 56 = .ok (.iload_n 2, 1) := by decide +kernel
theorem dX9_seen_57 : decode cX9_seen 57 = .ok (.iastore, 1) := by decide +kernel
theorem dX9_seen_58 : decode cX9_seen 58 = .ok (.aload_n 0, 1) := by decide +kernel
theorem dX9_seen_59 : decode cX9_seen 59 = .ok (.getfield 76, 3) := by decide +kernel
theorem dX9_seen_62 : decode cX9_seen 62 = .ok (.aload_n 0, 1) := by decide +kernel
theorem dX9_seen_63 : decode cX9_seen 63 = .ok (.getfield 243, 3) := by decide +kernel
theorem dX9_seen_66 : decode cX9_seen 66 = .ok (.iload_n 3, 1) := by decide +kernel
theorem dX9_seen_67 : decode cX9_seen 67 = .ok (.iastore, 1) := by decide +kernel
theorem dX9_seen_68 : decode cX9_seen 68 = .ok (.aload_n 0, 1) := by decide +kernel
theorem dX9_seen_69 : decode cX9_seen 69 = .ok (.dup, 1) := by decide +kernel
theorem dX9_seen_70 : decode cX9_seen 70 = .ok (.getfield 243, 3) := by decide +kernel
theorem dX9_seen_73 : decode cX9_seen 73 = .ok (.iconst 1, 1) := by decide +kernel
theorem dX9_seen_74 : decode cX9_seen 74 = .ok (.iadd, 1) := by decide +kernel
theorem dX9_seen_75 : decode cX9_seen 75 = .ok (.putfield 243, 3) := by decide +kernel
theorem dX9_seen_78 : decode cX9_seen 78 = .ok (.aload_n 0, 1) := by decide +kernel
theorem dX9_seen_79 : decode cX9_seen 79 = .ok (.getfield 243, 3) := by decide +kernel
theorem dX9_seen_82 : decode cX9_seen 82 = .ok (.iconst 1, 1) := by decide +kernel
theorem dX9_seen_83 : decode cX9_seen 83 = .ok (.isub, 1) := by decide +kernel
theorem dX9_seen_84 : decode cX9_seen 84 = .ok (.ireturn, 1) := by decide +kernel
theorem dX9_areFalse_0 : decode cX9_areFalse 0 = .ok (.aload_n 0, 1) := by decide +kernel
theorem dX9_areFalse_1 : decode cX9_areFalse 1 = .ok (.getfield 76, 3) := by decide +kernel
theorem dX9_areFalse_4 : decode cX9_areFalse 4 = .ok (.iload_n 1, 1) := by decide +kernel
theorem dX9_areFalse_5 : decode cX9_areFalse 5 = .ok (.iaload, 1) := by decide +kernel
theorem dX9_areFalse_6 : decode cX9_areFalse 6 = .ok (.aload_n 0, 1) := by decide +kernel
theorem dX9_areFalse_7 : decode cX9_areFalse 7 = .ok (.getfield 76, 3) := by decide +kernel
theorem dX9_areFalse_10 : decode cX9_areFalse 10 = .ok (.iload_n 2, 1) := by decide +kernel
theorem dX9_areFalse_11 : decode cX9_areFalse 11 = .ok (.iaload, 1) := by decide +kernel
theorem dX9_areFalse_12 : decode cX9_areFalse 12 = .ok (.isub, 1) := by decide +kernel
theorem dX9_areFalse_13 : decode cX9_areFalse 13 = .ok (.istore_n 3, 1) := by decide +kernel
theorem dX9_areFalse_14 : decode cX9_areFalse 14 = .ok (.aload_n 0, 1) := by decide +kernel
theorem dX9_areFalse_15 : decode cX9_areFalse 15 = .ok (.getfield 73, 3) := by decide +kernel
theorem dX9_areFalse_18 : decode cX9_areFalse 18 = .ok (.iload_n 1, 1) := by decide +kernel
theorem dX9_areFalse_19 : decode cX9_areFalse 19 = .ok (.iaload, 1) := by decide +kernel
theorem dX9_areFalse_20 : decode cX9_areFalse 20 = .ok (.aload_n 0, 1) := by decide +kernel
theorem dX9_areFalse_21 : decode cX9_areFalse 21 = .ok (.getfield 73, 3) := by decide +kernel
theorem dX9_areFalse_24 : decode cX9_areFalse 24 = .ok (.iload_n 2, 1) := by decide +kernel
theorem dX9_areFalse_25 : decode cX9_areFalse 25 = .ok (.iaload, 1) := by decide +kernel
theorem dX9_areFalse_26 : decode cX9_areFalse 26 = .ok (.isub, 1) := by decide +kernel
theorem dX9_areFalse_27 : decode cX9_areFalse 27 = .ok (.istore 4, 2) := by decide +kernel
theorem dX9_areFalse_29 : decode cX9_areFalse 29 = .ok (.iload 4, 2) := by decide +kernel
theorem dX9_areFalse_31 : decode cX9_areFalse 31 = .ok (.iconst 2, 1) := by decide +kernel
theorem dX9_areFalse_32 : decode cX9_areFalse 32 = .ok (.if_icmp .gt 10, 3) := by decide +kernel
theorem dX9_areFalse_35 : decode cX9_areFalse 35 = .ok (.iload 4, 2) := by decide +kernel
theorem dX9_areFalse_37 : decode cX9_areFalse 37 = .ok (.bipush (-2), 2) := by decide +kernel
theorem dX9_areFalse_39 : decode cX9_areFalse 39 = .ok (.if_icmp .ge 7, 3) := by decide +kernel
theorem dX9_areFalse_42 : decode cX9_areFalse 42 = .ok (.iconst 1, 1) := by decide +kernel
theorem dX9_areFalse_43 : decode cX9_areFalse 43 = .ok (.goto 4, 3) := by decide +kernel
theorem dX9_areFalse_46 : decode cX9_areFalse 46 = .ok (.iconst 0, 1) := by decide +kernel
theorem dX9_areFalse_47 : decode cX9_areFalse 47 = .ok (.istore 5, 2) := by decide +kernel
theorem dX9_areFalse_49 : decode cX9_areFalse 49 = .ok (.aload_n 0, 1) := by decide +kernel
theorem dX9_areFalse_50 : decode cX9_areFalse 50 = .ok (.getfield 70, 3) := by decide +kernel
theorem dX9_areFalse_53 : decode cX9_areFalse 53 = .ok (.iload_n 1, 1) := by decide +kernel
theorem dX9_areFalse_54 : decode cX9_areFalse 54 = .ok (.iaload, 1) := by decide +kernel
theorem dX9_areFalse_55 : decode cX9_areFalse 55 = .ok (.aload_n 0, 1) := by decide +kernel
theorem dX9_areFalse_56 : decode cX9_areFalse 56 = .ok (.getfield 70, 3) := by decide +kernel
theorem dX9_areFalse_59 : decode cX9_areFalse 59 = .ok (.iload_n 2, 1) := by decide +kernel
theorem dX9_areFalse_60 : decode cX9_areFalse 60 = .ok (.iaload, 1) := by decide +kernel
theorem dX9_areFalse_61 : decode cX9_areFalse 61 = .ok (.if_icmp .ne 31, 3) := by decide +kernel
theorem dX9_areFalse_64 : decode cX9_areFalse 64 = .ok (.iload_n 3, 1) := by decide +kernel
theorem dX9_areFalse_65 : decode cX9_areFalse 65 = .ok (.ifCond .ne 8, 3) := by decide +kernel
theorem dX9_areFalse_68 : decode cX9_areFalse 68 = .ok (.iload 4, 2) := by decide +kernel
theorem dX9_areFalse_70 : decode cX9_areFalse 70 = .ok (.ifCond .ne 18, 3) := by decide +kernel
theorem dX9_areFalse_73 : decode cX9_areFalse 73 = .ok (.iload_n 3, 1) := by decide +kernel
theorem dX9_areFalse_74 : decode cX9_areFalse 74 = .ok (.iconst 1, 1) := by decide +kernel
theorem dX9_areFalse_75 : decode cX9_areFalse 75 = .ok (.if_icmp .eq 8, 3) := by decide +kernel
theorem dX9_areFalse_78 : decode cX9_areFalse 78 = .ok (.iload_n 3, 1) := by decide +kernel
theorem dX9_areFalse_79 : decode cX9_areFalse 79 = .ok (.iconst (-1), 1) := by decide +kernel
theorem dX9_areFalse_80 : decode cX9_areFalse 80 = .ok (.if_icmp .ne 12, 3) := by decide +kernel
theorem dX9_areFalse_83 : decode cX9_areFalse 83 = .ok (.iload 5, 2) := by decide +kernel
theorem dX9_areFalse_85 : decode cX9_areFalse 85 = .ok (.ifCond .eq 7, 3) := by decide +kernel
theorem dX9_areFalse_88 : decode cX9_areFalse 88 = .ok (.iconst 1, 1) := by decide +kernel
theorem dX9_areFalse_89 : decode cX9_areFalse 89 = .ok (.goto 4, 3) := by decide +kernel
theorem dX9_areFalse_92 : decode cX9_areFalse 92 = .ok (.iconst 0, 1) := by decide +kernel
theorem dX9_areFalse_93 : decode cX9_areFalse 93 = .ok (.ireturn, 1) := by decide +kernel
theorem dX9_isSight_0 : decode cX9_isSight 0 = .ok (.iload_n 1, 1) := by decide +kernel
theorem dX9_isSight_1 : decode cX9_isSight 1 = .ok (.iconst 0, 1) := by decide +kernel
theorem dX9_isSight_2 : decode cX9_isSight 2 = .ok (.aload_n 0, 1) := by decide +kernel
theorem dX9_isSight_3 : decode cX9_isSight 3 = .ok (.getfield 243, 3) := by decide +kernel
theorem dX9_isSight_6 : decode cX9_isSight 6 = .ok (.iconst 1, 1) := by decide +kernel
theorem dX9_isSight_7 : decode cX9_isSight 7 = .ok (.isub, 1) := by decide +kernel
theorem dX9_isSight_8 : decode cX9_isSight 8 = .ok (.invokestatic 103, 3) := by decide +kernel
theorem dX9_isSight_11 : decode cX9_isSight 11 = .ok (.ireturn, 1) := by decide +kernel
theorem dX9_isFalse_0 : decode cX9_isFalse 0 = .ok (.aload_n 0, 1) := by decide +kernel
theorem dX9_isFalse_1 : decode cX9_isFalse 1 = .ok (.iload_n 1, 1) := by decide +kernel
theorem dX9_isFalse_2 : decode cX9_isFalse 2 = .ok (.invokevirtual 246, 3) := by decide +kernel
theorem dX9_isFalse_5 : decode cX9_isFalse 5 = .ok (.ifCond .eq 16, 3) := by decide +kernel
theorem dX9_isFalse_8 : decode cX9_isFalse 8 = .ok (.aload_n 0, 1) := by decide +kernel
theorem dX9_isFalse_9 : decode cX9_isFalse 9 = .ok (.iload_n 2, 1) := by decide +kernel
theorem dX9_isFalse_10 : decode cX9_isFalse 10 = .ok (.invokevirtual 246, 3) := by decide +kernel
theorem dX9_isFalse_13 : decode cX9_isFalse 13 = .ok (.ifCond .eq 8, 3) := by decide +kernel
theorem dX9_isFalse_16 : decode cX9_isFalse 16 = .ok (.iload_n 1, 1) := by decide +kernel
theorem dX9_isFalse_17 : decode cX9_isFalse 17 = .ok (.iload_n 2, 1) := by decide +kernel
theorem dX9_isFalse_18 : decode cX9_isFalse 18 = .ok (.if_icmp .ne 8, 3) := by decide +kernel
theorem dX9_isFalse_21 : decode cX9_isFalse 21 = .ok (.bipush (-2), 2) := by decide +kernel
theorem dX9_isFalse_23 : decode cX9_isFalse 23 = .ok (.goto 17, 3) := by decide +kernel
theorem dX9_isFalse_26 : decode cX9_isFalse 26 = .ok (.aload_n 0, 1) := by decide +kernel
theorem dX9_isFalse_27 : decode cX9_isFalse 27 = .ok (.iload_n 1, 1) := by decide +kernel
theorem dX9_isFalse_28 : decode cX9_isFalse 28 = .ok (.iload_n 2, 1) := by decide +kernel
theorem dX9_isFalse_29 : decode cX9_isFalse 29 = .ok (.invokevirtual 249, 3) := by decide +kernel
theorem dX9_isFalse_32 : decode cX9_isFalse 32 = .ok (.ifCond .eq 7, 3) := by decide +kernel
theorem dX9_isFalse_35 : decode cX9_isFalse 35 = .ok (.iconst 1, 1) := by decide +kernel
theorem dX9_isFalse_36 : decode cX9_isFalse 36 = .ok (.goto 4, 3) := by decide +kernel
theorem dX9_isFalse_39 : decode cX9_isFalse 39 = .ok (.iconst 0, 1) := by decide +kernel
theorem dX9_isFalse_40 : decode cX9_isFalse 40 = .ok (.ireturn, 1) := by decide +kernel
theorem dX9_hatsOf_0 : decode cX9_hatsOf 0 = .ok (.iconst (-1), 1) := by decide +kernel
theorem dX9_hatsOf_1 : decode cX9_hatsOf 1 = .ok (.istore_n 2, 1) := by decide +kernel
theorem dX9_hatsOf_2 : decode cX9_hatsOf 2 = .ok (.iconst 0, 1) := by decide +kernel
theorem dX9_hatsOf_3 : decode cX9_hatsOf 3 = .ok (.istore_n 3, 1) := by decide +kernel
theorem dX9_hatsOf_4 : decode cX9_hatsOf 4 = .ok (.iload_n 3, 1) := by decide +kernel
theorem dX9_hatsOf_5 : decode cX9_hatsOf 5 = .ok (.iconst 1, 1) := by decide +kernel
theorem dX9_hatsOf_6 : decode cX9_hatsOf 6 = .ok (.aload_n 0, 1) := by decide +kernel
theorem dX9_hatsOf_7 : decode cX9_hatsOf 7 = .ok (.getfield 243, 3) := by decide +kernel
theorem dX9_hatsOf_10 : decode cX9_hatsOf 10 = .ok (.ishl, 1) := by decide +kernel
theorem dX9_hatsOf_11 : decode cX9_hatsOf 11 = .ok (.if_icmp .ge 114, 3) := by decide +kernel
theorem dX9_hatsOf_14 : decode cX9_hatsOf 14 = .ok (.iload_n 2, 1) := by decide +kernel
theorem dX9_hatsOf_15 : decode cX9_hatsOf 15 = .ok (.iconst (-1), 1) := by decide +kernel
theorem dX9_hatsOf_16 : decode cX9_hatsOf 16 = .ok (.if_icmp .eq 14, 3) := by decide +kernel
theorem dX9_hatsOf_19 : decode cX9_hatsOf 19 = .ok (.iload_n 3, 1) := by decide +kernel
theorem dX9_hatsOf_20 : decode cX9_hatsOf 20 = .ok (.invokestatic 164, 3) := by decide +kernel
theorem dX9_hatsOf_23 : decode cX9_hatsOf 23 = .ok (.iload_n 2, 1) := by decide +kernel
theorem dX9_hatsOf_24 : decode cX9_hatsOf 24 = .ok (.invokestatic 164, 3) := by decide +kernel
theorem dX9_hatsOf_27 : decode cX9_hatsOf 27 = .ok (.if_icmp .ge 92, 3) := by decide +kernel
theorem dX9_hatsOf_30 : decode cX9_hatsOf 30 = .ok (.iconst 1, 1) := by decide +kernel
theorem dX9_hatsOf_31 : decode cX9_hatsOf 31 = .ok (.istore 4, 2) := by decide +kernel
theorem dX9_hatsOf_33 : decode cX9_hatsOf 33 = .ok (.iconst 0, 1) := by decide +kernel
theorem dX9_hatsOf_34 : decode cX9_hatsOf 34 = .ok (.istore 5, 2) := by decide +kernel
theorem dX9_hatsOf_36 : decode cX9_hatsOf 36 = .ok (.iload 5, 2) := by decide +kernel
theorem dX9_hatsOf_38 : decode cX9_hatsOf 38 = .ok (.aload_n 0, 1) := by decide +kernel
theorem dX9_hatsOf_39 : decode cX9_hatsOf 39 = .ok (.getfield 243, 3) := by decide +kernel
theorem dX9_hatsOf_42 : decode cX9_hatsOf 42 = .ok (.if_icmp .ge 66, 3) := by decide +kernel
theorem dX9_hatsOf_45 : decode cX9_hatsOf 45 = .ok (.iconst 0, 1) := by decide +kernel
theorem dX9_hatsOf_46 : decode cX9_hatsOf 46 = .ok (.istore 6, 2) := by decide +kernel
theorem dX9_hatsOf_48 : decode cX9_hatsOf 48 = .ok (.iload 6, 2) := by decide +kernel
theorem dX9_hatsOf_50 : decode cX9_hatsOf 50 = .ok (.iload 5, 2) := by decide +kernel
theorem dX9_hatsOf_52 : decode cX9_hatsOf 52 = .ok (.if_icmp .ge 50, 3) := by decide +kernel
theorem dX9_hatsOf_55 : decode cX9_hatsOf 55 = .ok (.iload 4, 2) := by decide +kernel
theorem dX9_hatsOf_57 : decode cX9_hatsOf 57 = .ok (.ifCond .eq 36, 3) := by decide +kernel
theorem dX9_hatsOf_60 : decode cX9_hatsOf 60 = .ok (.iload_n 3, 1) := by decide +kernel
theorem dX9_hatsOf_61 : decode cX9_hatsOf 61 = .ok (.iload 5, 2) := by decide +kernel
theorem dX9_hatsOf_63 : decode cX9_hatsOf 63 = .ok (.invokestatic 119, 3) := by decide +kernel
theorem dX9_hatsOf_66 : decode cX9_hatsOf 66 = .ok (.ifCond .ne 23, 3) := by decide +kernel
theorem dX9_hatsOf_69 : decode cX9_hatsOf 69 = .ok (.iload_n 3, 1) := by decide +kernel
theorem dX9_hatsOf_70 : decode cX9_hatsOf 70 = .ok (.iload 6, 2) := by decide +kernel
theorem dX9_hatsOf_72 : decode cX9_hatsOf 72 = .ok (.invokestatic 119, 3) := by decide +kernel
theorem dX9_hatsOf_75 : decode cX9_hatsOf 75 = .ok (.ifCond .ne 14, 3) := by decide +kernel
theorem dX9_hatsOf_78 : decode cX9_hatsOf 78 = .ok (.aload_n 0, 1) := by decide +kernel
theorem dX9_hatsOf_79 : decode cX9_hatsOf 79 = .ok (.iload 5, 2) := by decide +kernel
theorem dX9_hatsOf_81 : decode cX9_hatsOf 81 = .ok (.iload 6, 2) := by decide +kernel
theorem dX9_hatsOf_83 : decode cX9_hatsOf 83 = .ok (.invokevirtual 249, 3) := by decide +kernel
theorem dX9_hatsOf_86 : decode cX9_hatsOf 86 = .ok (.ifCond .ne 7, 3) := by decide +kernel
theorem dX9_hatsOf_89 : decode cX9_hatsOf 89 = .ok (.iconst 1, 1) := by decide +kernel
theorem dX9_hatsOf_90 : decode cX9_hatsOf 90 = .ok (.goto 4, 3) := by decide +kernel
theorem dX9_hatsOf_93 : decode cX9_hatsOf 93 = .ok (.iconst 0, 1) := by decide +kernel
theorem dX9_hatsOf_94 : decode cX9_hatsOf 94 = .ok (.istore 4, 2) := by decide +kernel
theorem dX9_hatsOf_96 : decode cX9_hatsOf 96 = .ok (.iinc 6 1, 3) := by decide +kernel
theorem dX9_hatsOf_99 : decode cX9_hatsOf 99 = .ok (.goto (-51), 3) := by decide +kernel
theorem dX9_hatsOf_102 : decode cX9_hatsOf 102 = .ok (.iinc 5 1, 3) := by decide +kernel
theorem dX9_hatsOf_105 : decode cX9_hatsOf 105 = .ok (.goto (-69), 3) := by decide +kernel
theorem dX9_hatsOf_108 : decode cX9_hatsOf 108 = .ok (.iload 4, 2) := by decide +kernel
theorem dX9_hatsOf_110 : decode cX9_hatsOf 110 = .ok (.ifCond .eq 7, 3) := by decide +kernel
theorem dX9_hatsOf_113 : decode cX9_hatsOf 113 = .ok (.iload_n 3, 1) := by decide +kernel
theorem dX9_hatsOf_114 : decode cX9_hatsOf 114 = .ok (.goto 4, 3) := by decide +kernel
theorem dX9_hatsOf_117 : decode cX9_hatsOf 117 = .ok (.iload_n 2, 1) := by decide +kernel
theorem dX9_hatsOf_118 : decode cX9_hatsOf 118 = .ok (.istore_n 2, 1) := by decide +kernel
theorem dX9_hatsOf_119 : decode cX9_hatsOf 119 = .ok (.iinc 3 1, 3) := by decide +kernel
theorem dX9_hatsOf_122 : decode cX9_hatsOf 122 = .ok (.goto (-118), 3) := by decide +kernel
theorem dX9_hatsOf_125 : decode cX9_hatsOf 125 = .ok (.iload_n 1, 1) := by decide +kernel
theorem dX9_hatsOf_126 : decode cX9_hatsOf 126 = .ok (.ifCond .ne 10, 3) := by decide +kernel
theorem dX9_hatsOf_129 : decode cX9_hatsOf 129 = .ok (.iload_n 2, 1) := by decide +kernel
theorem dX9_hatsOf_130 : decode cX9_hatsOf 130 = .ok (.invokestatic 164, 3) := by decide +kernel
theorem dX9_hatsOf_133 : decode cX9_hatsOf 133 = .ok (.goto 4, 3) := by decide +kernel
theorem dX9_hatsOf_136 : decode cX9_hatsOf 136 = .ok (.iload_n 2, 1) := by decide +kernel
theorem dX9_hatsOf_137 : decode cX9_hatsOf 137 = .ok (.ireturn, 1) := by decide +kernel
theorem dX9_hats_0 : decode cX9_hats 0 = .ok (.iload_n 1, 1) := by decide +kernel
theorem dX9_hats_1 : decode cX9_hats 1 = .ok (.iconst 0, 1) := by decide +kernel
theorem dX9_hats_2 : decode cX9_hats 2 = .ok (.iconst 1, 1) := by decide +kernel
theorem dX9_hats_3 : decode cX9_hats 3 = .ok (.invokestatic 103, 3) := by decide +kernel
theorem dX9_hats_6 : decode cX9_hats 6 = .ok (.ifCond .eq 11, 3) := by decide +kernel
theorem dX9_hats_9 : decode cX9_hats 9 = .ok (.aload_n 0, 1) := by decide +kernel
theorem dX9_hats_10 : decode cX9_hats 10 = .ok (.iload_n 1, 1) := by decide +kernel
theorem dX9_hats_11 : decode cX9_hats 11 = .ok (.invokevirtual 252, 3) := by decide +kernel
theorem dX9_hats_14 : decode cX9_hats 14 = .ok (.goto 5, 3) := by decide +kernel
theorem dX9_hats_17 : decode cX9_hats 17 = .ok (.bipush (-2), 2) := by decide +kernel
theorem dX9_hats_19 : decode cX9_hats 19 = .ok (.ireturn, 1) := by decide +kernel
theorem dX9_after_0 : decode cX9_after 0 = .ok (.iload_n 1, 1) := by decide +kernel
theorem dX9_after_1 : decode cX9_after 1 = .ok (.iconst 0, 1) := by decide +kernel
theorem dX9_after_2 : decode cX9_after 2 = .ok (.bipush 7, 2) := by decide +kernel
theorem dX9_after_4 : decode cX9_after 4 = .ok (.invokestatic 103, 3) := by decide +kernel
theorem dX9_after_7 : decode cX9_after 7 = .ok (.ifCond .eq 18, 3) := by decide +kernel
theorem dX9_after_10 : decode cX9_after 10 = .ok (.iload_n 2, 1) := by decide +kernel
theorem dX9_after_11 : decode cX9_after 11 = .ok (.iconst 0, 1) := by decide +kernel
theorem dX9_after_12 : decode cX9_after 12 = .ok (.bipush 7, 2) := by decide +kernel
theorem dX9_after_14 : decode cX9_after 14 = .ok (.invokestatic 103, 3) := by decide +kernel
theorem dX9_after_17 : decode cX9_after 17 = .ok (.ifCond .eq 8, 3) := by decide +kernel
theorem dX9_after_20 : decode cX9_after 20 = .ok (.iload_n 1, 1) := by decide +kernel
theorem dX9_after_21 : decode cX9_after 21 = .ok (.iload_n 2, 1) := by decide +kernel
