theorem dL_pedals_202 : decode cL_pedals 202 = .ok (.iload 14, 2) := by decide +kernel
theorem dL_pedals_204 : decode cL_pedals 204 = .ok (.iconst 4, 1) := by decide +kernel
theorem dL_pedals_205 : decode cL_pedals 205 = .ok (.invokevirtual 22, 3) := by decide +kernel
theorem dL_pedals_208 : decode cL_pedals 208 = .ok (.iadd, 1) := by decide +kernel
theorem dL_pedals_209 : decode cL_pedals 209 = .ok (.istore 13, 2) := by decide +kernel
theorem dL_pedals_211 : decode cL_pedals 211 = .ok (.iinc 14 1, 3) := by decide +kernel
theorem dL_pedals_214 : decode cL_pedals 214 = .ok (.goto (-25), 3) := by decide +kernel
theorem dL_pedals_217 : decode cL_pedals 217 = .ok (.iload_n 1, 1) := by decide +kernel
theorem dL_pedals_218 : decode cL_pedals 218 = .ok (.ifCond .eq 36, 3) := by decide +kernel
theorem dL_pedals_221 : decode cL_pedals 221 = .ok (.iload_n 2, 1) := by decide +kernel
theorem dL_pedals_222 : decode cL_pedals 222 = .ok (.ifCond .eq 27, 3) := by decide +kernel
theorem dL_pedals_225 : decode cL_pedals 225 = .ok (.iload_n 3, 1) := by decide +kernel
theorem dL_pedals_226 : decode cL_pedals 226 = .ok (.ifCond .eq 13, 3) := by decide +kernel
theorem dL_pedals_229 : decode cL_pedals 229 = .ok (.iload 13, 2) := by decide +kernel
theorem dL_pedals_231 : decode cL_pedals 231 = .ok (.iload 8, 2) := by decide +kernel
theorem dL_pedals_233 : decode cL_pedals 233 = .ok (.if_icmp .ne 25, 3) := by decide +kernel
theorem dL_pedals_236 : decode cL_pedals 236 = .ok (.goto 18, 3) := by decide +kernel
theorem dL_pedals_239 : decode cL_pedals 239 = .ok (.iload 13, 2) := by decide +kernel
theorem dL_pedals_241 : decode cL_pedals 241 = .ok (.iload 5, 2) := by decide +kernel
theorem dL_pedals_243 : decode cL_pedals 243 = .ok (.if_icmp .ne 15, 3) := by decide +kernel
theorem dL_pedals_246 : decode cL_pedals 246 = .ok (.goto 8, 3) := by decide +kernel
theorem dL_pedals_249 : decode cL_pedals 249 = .ok (.iload 13, 2) := by decide +kernel
theorem dL_pedals_251 : decode cL_pedals 251 = .ok (.ifCond .ne 7, 3) := by decide +kernel
theorem dL_pedals_254 : decode cL_pedals 254 = .ok (.iconst 1, 1) := by decide +kernel
theorem dL_pedals_255 : decode cL_pedals 255 = .ok (.goto 4, 3) := by decide +kernel
theorem dL_pedals_258 : decode cL_pedals 258 = .ok (.iconst 0, 1) := by decide +kernel
theorem dL_pedals_259 : decode cL_pedals 259 = .ok (.istore 14, 2) := by decide +kernel
theorem dL_pedals_261 : decode cL_pedals 261 = .ok (.iload 10, 2) := by decide +kernel
theorem dL_pedals_263 : decode cL_pedals 263 = .ok (.iload 12, 2) := by decide +kernel
theorem dL_pedals_265 : decode cL_pedals 265 = .ok (.if_icmp .ne 58, 3) := by decide +kernel
theorem dL_pedals_268 : decode cL_pedals 268 = .ok (.aload_n 0, 1) := by decide +kernel
theorem dL_pedals_269 : decode cL_pedals 269 = .ok (.bipush 8, 2) := by decide +kernel
theorem dL_pedals_271 : decode cL_pedals 271 = .ok (.invokevirtual 19, 3) := by decide +kernel
theorem dL_pedals_274 : decode cL_pedals 274 = .ok (.iload 7, 2) := by decide +kernel
theorem dL_pedals_276 : decode cL_pedals 276 = .ok (.iload 11, 2) := by decide +kernel
theorem dL_pedals_278 : decode cL_pedals 278 = .ok (.iadd, 1) := by decide +kernel
theorem dL_pedals_279 : decode cL_pedals 279 = .ok (.if_icmp .ne 44, 3) := by decide +kernel
theorem dL_pedals_282 : decode cL_pedals 282 = .ok (.aload_n 0, 1) := by decide +kernel
theorem dL_pedals_283 : decode cL_pedals 283 = .ok (.bipush 7, 2) := by decide +kernel
theorem dL_pedals_285 : decode cL_pedals 285 = .ok (.invokevirtual 19, 3) := by decide +kernel
theorem dL_pedals_288 : decode cL_pedals 288 = .ok (.iload 6, 2) := by decide +kernel
theorem dL_pedals_290 : decode cL_pedals 290 = .ok (.iload 11, 2) := by decide +kernel
theorem dL_pedals_292 : decode cL_pedals 292 = .ok (.isub, 1) := by decide +kernel
theorem dL_pedals_293 : decode cL_pedals 293 = .ok (.if_icmp .ne 30, 3) := by decide +kernel
theorem dL_pedals_296 : decode cL_pedals 296 = .ok (.aload_n 0, 1) := by decide +kernel
theorem dL_pedals_297 : decode cL_pedals 297 = .ok (.bipush 6, 2) := by decide +kernel
theorem dL_pedals_299 : decode cL_pedals 299 = .ok (.invokevirtual 19, 3) := by decide +kernel
theorem dL_pedals_302 : decode cL_pedals 302 = .ok (.aload_n 0, 1) := by decide +kernel
theorem dL_pedals_303 : decode cL_pedals 303 = .ok (.bipush 7, 2) := by decide +kernel
theorem dL_pedals_305 : decode cL_pedals 305 = .ok (.invokevirtual 19, 3) := by decide +kernel
theorem dL_pedals_308 : decode cL_pedals 308 = .ok (.isub, 1) := by decide +kernel
theorem dL_pedals_309 : decode cL_pedals 309 = .ok (.iload 5, 2) := by decide +kernel
theorem dL_pedals_311 : decode cL_pedals 311 = .ok (.if_icmp .ne 12, 3) := by decide +kernel
theorem dL_pedals_314 : decode cL_pedals 314 = .ok (.iload 14, 2) := by decide +kernel
theorem dL_pedals_316 : decode cL_pedals 316 = .ok (.ifCond .eq 7, 3) := by decide +kernel
theorem dL_pedals_319 : decode cL_pedals 319 = .ok (.iconst 1, 1) := by decide +kernel
theorem dL_pedals_320 : decode cL_pedals 320 = .ok (.goto 4, 3) := by decide +kernel
theorem dL_pedals_323 : decode cL_pedals 323 = .ok (.iconst 0, 1) := by decide +kernel
theorem dL_pedals_324 : decode cL_pedals 324 = .ok (.ireturn, 1) := by decide +kernel
theorem dL_law_0 : decode cL_law 0 = .ok (.new 10, 3) := by decide +kernel
theorem dL_law_3 : decode cL_law 3 = .ok (.dup, 1) := by decide +kernel
theorem dL_law_4 : decode cL_law 4 = .ok (.invokespecial 54, 3) := by decide +kernel
theorem dL_law_7 : decode cL_law 7 = .ok (.astore_n 1, 1) := by decide +kernel
theorem dL_law_8 : decode cL_law 8 = .ok (.aload_n 0, 1) := by decide +kernel
theorem dL_law_9 : decode cL_law 9 = .ok (.iconst 0, 1) := by decide +kernel
theorem dL_law_10 : decode cL_law 10 = .ok (.invokestatic 55, 3) := by decide +kernel
theorem dL_law_13 : decode cL_law 13 = .ok (.istore_n 2, 1) := by decide +kernel
theorem dL_law_14 : decode cL_law 14 = .ok (.iconst 1, 1) := by decide +kernel
theorem dL_law_15 : decode cL_law 15 = .ok (.iload_n 2, 1) := by decide +kernel
theorem dL_law_16 : decode cL_law 16 = .ok (.iconst 5, 1) := by decide +kernel
theorem dL_law_17 : decode cL_law 17 = .ok (.invokestatic 61, 3) := by decide +kernel
theorem dL_law_20 : decode cL_law 20 = .ok (.iadd, 1) := by decide +kernel
theorem dL_law_21 : decode cL_law 21 = .ok (.istore_n 3, 1) := by decide +kernel
theorem dL_law_22 : decode cL_law 22 = .ok (.iconst 1, 1) := by decide +kernel
theorem dL_law_23 : decode cL_law 23 = .ok (.iload_n 2, 1) := by decide +kernel
theorem dL_law_24 : decode cL_law 24 = .ok (.iconst 3, 1) := by decide +kernel
theorem dL_law_25 : decode cL_law 25 = .ok (.ishr, 1) := by decide +kernel
theorem dL_law_26 : decode cL_law 26 = .ok (.iconst 5, 1) := by decide +kernel
theorem dL_law_27 : decode cL_law 27 = .ok (.invokestatic 61, 3) := by decide +kernel
theorem dL_law_30 : decode cL_law 30 = .ok (.iadd, 1) := by decide +kernel
theorem dL_law_31 : decode cL_law 31 = .ok (.istore 4, 2) := by decide +kernel
theorem dL_law_33 : decode cL_law 33 = .ok (.iload_n 3, 1) := by decide +kernel
theorem dL_law_34 : decode cL_law 34 = .ok (.iload 4, 2) := by decide +kernel
theorem dL_law_36 : decode cL_law 36 = .ok (.imul, 1) := by decide +kernel
theorem dL_law_37 : decode cL_law 37 = .ok (.istore 5, 2) := by decide +kernel
theorem dL_law_39 : decode cL_law 39 = .ok (.iconst 0, 1) := by decide +kernel
theorem dL_law_40 : decode cL_law 40 = .ok (.istore 6, 2) := by decide +kernel
theorem dL_law_42 : decode cL_law 42 = .ok (.iconst 0, 1) := by decide +kernel
theorem dL_law_43 : decode cL_law 43 = .ok (.istore 7, 2) := by decide +kernel
theorem dL_law_45 : decode cL_law 45 = .ok (.iconst 0, 1) := by decide +kernel
theorem dL_law_46 : decode cL_law 46 = .ok (.istore 8, 2) := by decide +kernel
theorem dL_law_48 : decode cL_law 48 = .ok (.iconst 0, 1) := by decide +kernel
theorem dL_law_49 : decode cL_law 49 = .ok (.istore 9, 2) := by decide +kernel
theorem dL_law_51 : decode cL_law 51 = .ok (.bipush 8, 2) := by decide +kernel
theorem dL_law_53 : decode cL_law 53 = .ok (.istore 10, 2) := by decide +kernel
theorem dL_law_55 : decode cL_law 55 = .ok (.iconst 4, 1) := by decide +kernel
theorem dL_law_56 : decode cL_law 56 = .ok (.istore 11, 2) := by decide +kernel
theorem dL_law_58 : decode cL_law 58 = .ok (.aload_n 1, 1) := by decide +kernel
theorem dL_law_59 : decode cL_law 59 = .ok (.iload_n 3, 1) := by decide +kernel
theorem dL_law_60 : decode cL_law 60 = .ok (.iload 4, 2) := by decide +kernel
theorem dL_law_62 : decode cL_law 62 = .ok (.invokevirtual 64, 3) := by decide +kernel
theorem dL_law_65 : decode cL_law 65 = .ok (.iload 5, 2) := by decide +kernel
theorem dL_law_67 : decode cL_law 67 = .ok (.if_icmp .ne 26, 3) := by decide +kernel
theorem dL_law_70 : decode cL_law 70 = .ok (.aload_n 1, 1) := by decide +kernel
theorem dL_law_71 : decode cL_law 71 = .ok (.iconst 0, 1) := by decide +kernel
theorem dL_law_72 : decode cL_law 72 = .ok (.iconst 1, 1) := by decide +kernel
theorem dL_law_73 : decode cL_law 73 = .ok (.invokevirtual 64, 3) := by decide +kernel
theorem dL_law_76 : decode cL_law 76 = .ok (.bipush (-2), 2) := by decide +kernel
theorem dL_law_78 : decode cL_law 78 = .ok (.if_icmp .ne 15, 3) := by decide +kernel
theorem dL_law_81 : decode cL_law 81 = .ok (.aload_n 1, 1) := by decide +kernel
theorem dL_law_82 : decode cL_law 82 = .ok (.iconst 1, 1) := by decide +kernel
theorem dL_law_83 : decode cL_law 83 = .ok (.bipush 9, 2) := by decide +kernel
theorem dL_law_85 : decode cL_law 85 = .ok (.invokevirtual 64, 3) := by decide +kernel
theorem dL_law_88 : decode cL_law 88 = .ok (.bipush (-2), 2) := by decide +kernel
theorem dL_law_90 : decode cL_law 90 = .ok (.if_icmp .eq 5, 3) := by decide +kernel
theorem dL_law_93 : decode cL_law 93 = .ok (.iconst 0, 1) := by decide +kernel
theorem dL_law_94 : decode cL_law 94 = .ok (.ireturn, 1) := by decide +kernel
theorem dL_law_95 : decode cL_law 95 = .ok (.iconst 0, 1) := by decide +kernel
theorem dL_law_96 : decode cL_law 96 = .ok (.istore 12, 2) := by decide +kernel
theorem dL_law_98 : decode cL_law 98 = .ok (.iload 12, 2) := by decide +kernel
theorem dL_law_100 : decode cL_law 100 = .ok (.bipush 34, 2) := by decide +kernel
theorem dL_law_102 : decode cL_law 102 = .ok (.if_icmp .ge 807, 3) := by decide +kernel
theorem dL_law_105 : decode cL_law 105 = .ok (.aload_n 0, 1) := by decide +kernel
theorem dL_law_106 : decode cL_law 106 = .ok (.iconst 1, 1) := by decide +kernel
theorem dL_law_107 : decode cL_law 107 = .ok (.iconst 2, 1) := by decide +kernel
theorem dL_law_108 : decode cL_law 108 = .ok (.iload 12, 2) := by decide +kernel
theorem dL_law_110 : decode cL_law 110 = .ok (.imul, 1) := by decide +kernel
theorem dL_law_111 : decode cL_law 111 = .ok (.iadd, 1) := by decide +kernel
theorem dL_law_112 : decode cL_law 112 = .ok (.invokestatic 55, 3) := by decide +kernel
theorem dL_law_115 : decode cL_law 115 = .ok (.istore 13, 2) := by decide +kernel
theorem dL_law_117 : decode cL_law 117 = .ok (.aload_n 0, 1) := by decide +kernel
theorem dL_law_118 : decode cL_law 118 = .ok (.iconst 2, 1) := by decide +kernel
theorem dL_law_119 : decode cL_law 119 = .ok (.iconst 2, 1) := by decide +kernel
theorem dL_law_120 : decode cL_law 120 = .ok (.iload 12, 2) := by decide +kernel
theorem dL_law_122 : decode cL_law 122 = .ok (.imul, 1) := by decide +kernel
theorem dL_law_123 : decode cL_law 123 = .ok (.iadd, 1) := by decide +kernel
theorem dL_law_124 : decode cL_law 124 = .ok (.invokestatic 55, 3) := by decide +kernel
theorem dL_law_127 : decode cL_law 127 = .ok (.istore 14, 2) := by decide +kernel
theorem dL_law_129 : decode cL_law 129 = .ok (.iload 13, 2) := by decide +kernel
theorem dL_law_131 : decode cL_law 131 = .ok (.bipush 13, 2) := by decide +kernel
theorem dL_law_133 : decode cL_law 133 = .ok (.invokestatic 61, 3) := by decide +kernel
theorem dL_law_136 : decode cL_law 136 = .ok (.istore 15, 2) := by decide +kernel
theorem dL_law_138 : decode cL_law 138 = .ok (.iload 13, 2) := by decide +kernel
theorem dL_law_140 : decode cL_law 140 = .ok (.iconst 4, 1) := by decide +kernel
theorem dL_law_141 : decode cL_law 141 = .ok (.ishr, 1) := by decide +kernel
theorem dL_law_142 : decode cL_law 142 = .ok (.istore 13, 2) := by decide +kernel
theorem dL_law_144 : decode cL_law 144 = .ok (.iload 15, 2) := by decide +kernel
theorem dL_law_146 : decode cL_law 146 = .ok (.iconst 4, 1) := by decide +kernel
theorem dL_law_147 : decode cL_law 147 = .ok (.if_icmp .ge 100, 3) := by decide +kernel
theorem dL_law_150 : decode cL_law 150 = .ok (.iload 13, 2) := by decide +kernel
theorem dL_law_152 : decode cL_law 152 = .ok (.iload 5, 2) := by decide +kernel
theorem dL_law_154 : decode cL_law 154 = .ok (.invokestatic 61, 3) := by decide +kernel
theorem dL_law_157 : decode cL_law 157 = .ok (.istore 16, 2) := by decide +kernel
theorem dL_law_159 : decode cL_law 159 = .ok (.aload_n 1, 1) := by decide +kernel
theorem dL_law_160 : decode cL_law 160 = .ok (.iload 16, 2) := by decide +kernel
theorem dL_law_162 : decode cL_law 162 = .ok (.iconst 0, 1) := by decide +kernel
theorem dL_law_163 : decode cL_law 163 = .ok (.invokevirtual 15, 3) := by decide +kernel
theorem dL_law_166 : decode cL_law 166 = .ok (.istore 17, 2) := by decide +kernel
theorem dL_law_168 : decode cL_law 168 = .ok (.iload 14, 2) := by decide +kernel
theorem dL_law_170 : decode cL_law 170 = .ok (.iconst 3, 1) := by decide +kernel
theorem dL_law_171 : decode cL_law 171 = .ok (.iand, 1) := by decide +kernel
theorem dL_law_172 : decode cL_law 172 = .ok (.ifCond .ne 7, 3) := by decide +kernel
theorem dL_law_175 : decode cL_law 175 = .ok (.iconst 0, 1) := by decide +kernel
theorem dL_law_176 : decode cL_law 176 = .ok (.goto 16, 3) := by decide +kernel
theorem dL_law_179 : decode cL_law 179 = .ok (.iload 14, 2) := by decide +kernel
theorem dL_law_181 : decode cL_law 181 = .ok (.iconst 3, 1) := by decide +kernel
theorem dL_law_182 : decode cL_law 182 = .ok (.iand, 1) := by decide +kernel
theorem dL_law_183 : decode cL_law 183 = .ok (.iconst 1, 1) := by decide +kernel
theorem dL_law_184 : decode cL_law 184 = .ok (.if_icmp .ne 7, 3) := by decide +kernel
theorem dL_law_187 : decode cL_law 187 = .ok (.iconst 1, 1) := by decide +kernel
theorem dL_law_188 : decode cL_law 188 = .ok (.goto 4, 3) := by decide +kernel
theorem dL_law_191 : decode cL_law 191 = .ok (.iconst 2, 1) := by decide +kernel
theorem dL_law_192 : decode cL_law 192 = .ok (.istore 18, 2) := by decide +kernel
theorem dL_law_194 : decode cL_law 194 = .ok (.aload_n 1, 1) := by decide +kernel
theorem dL_law_195 : decode cL_law 195 = .ok (.iload 16, 2) := by decide +kernel
theorem dL_law_197 : decode cL_law 197 = .ok (.iload 18, 2) := by decide +kernel
theorem dL_law_199 : decode cL_law 199 = .ok (.invokevirtual 41, 3) := by decide +kernel
theorem dL_law_202 : decode cL_law 202 = .ok (.iload 17, 2) := by decide +kernel
theorem dL_law_204 : decode cL_law 204 = .ok (.if_icmp .ne 38, 3) := by decide +kernel
theorem dL_law_207 : decode cL_law 207 = .ok (.aload_n 1, 1) := by decide +kernel
theorem dL_law_208 : decode cL_law 208 = .ok (.iload 16, 2) := by decide +kernel
theorem dL_law_210 : decode cL_law 210 = .ok (.iconst 0, 1) := by decide +kernel
theorem dL_law_211 : decode cL_law 211 = .ok (.invokevirtual 15, 3) := by decide +kernel
theorem dL_law_214 : decode cL_law 214 = .ok (.iload 18, 2) := by decide +kernel
theorem dL_law_216 : decode cL_law 216 = .ok (.if_icmp .ne 26, 3) := by decide +kernel
theorem dL_law_219 : decode cL_law 219 = .ok (.aload_n 1, 1) := by decide +kernel
theorem dL_law_220 : decode cL_law 220 = .ok (.iload 5, 2) := by decide +kernel
theorem dL_law_222 : decode cL_law 222 = .ok (.iconst 0, 1) := by decide +kernel
theorem dL_law_223 : decode cL_law 223 = .ok (.invokevirtual 41, 3) := by decide +kernel
theorem dL_law_226 : decode cL_law 226 = .ok (.iconst (-1), 1) := by decide +kernel
theorem dL_law_227 : decode cL_law 227 = .ok (.if_icmp .ne 15, 3) := by decide +kernel
theorem dL_law_230 : decode cL_law 230 = .ok (.aload_n 1, 1) := by decide +kernel
theorem dL_law_231 : decode cL_law 231 = .ok (.iload 16, 2) := by decide +kernel
theorem dL_law_233 : decode cL_law 233 = .ok (.iconst 3, 1) := by decide +kernel
theorem dL_law_234 : decode cL_law 234 = .ok (.invokevirtual 41, 3) := by decide +kernel
theorem dL_law_237 : decode cL_law 237 = .ok (.bipush (-2), 2) := by decide +kernel
theorem dL_law_239 : decode cL_law 239 = .ok (.if_icmp .eq 5, 3) := by decide +kernel
theorem dL_law_242 : decode cL_law 242 = .ok (.iconst 0, 1) := by decide +kernel
theorem dL_law_243 : decode cL_law 243 = .ok (.ireturn, 1) := by decide +kernel
theorem dL_law_244 : decode cL_law 244 = .ok (.goto 630, 3) := by decide +kernel
theorem dL_law_247 : decode cL_law 247 = .ok (.iload 15, 2) := by decide +kernel
theorem dL_law_249 : decode cL_law 249 = .ok (.bipush 7, 2) := by decide +kernel
theorem dL_law_251 : decode cL_law 251 = .ok (.if_icmp .ge 48, 3) := by decide +kernel
theorem dL_law_254 : decode cL_law 254 = .ok (.iconst 1, 1) := by decide +kernel
theorem dL_law_255 : decode cL_law 255 = .ok (.iload 14, 2) := by decide +kernel
theorem dL_law_257 : decode cL_law 257 = .ok (.iconst 2, 1) := by decide +kernel
theorem dL_law_258 : decode cL_law 258 = .ok (.iload_n 3, 1) := by decide +kernel
theorem dL_law_259 : decode cL_law 259 = .ok (.imul, 1) := by decide +kernel
theorem dL_law_260 : decode cL_law 260 = .ok (.iconst 2, 1) := by decide +kernel
theorem dL_law_261 : decode cL_law 261 = .ok (.iadd, 1) := by decide +kernel
theorem dL_law_262 : decode cL_law 262 = .ok (.invokestatic 61, 3) := by decide +kernel
theorem dL_law_265 : decode cL_law 265 = .ok (.iadd, 1) := by decide +kernel
theorem dL_law_266 : decode cL_law 266 = .ok (.istore 16, 2) := by decide +kernel
theorem dL_law_268 : decode cL_law 268 = .ok (.iconst 0, 1) := by decide +kernel
theorem dL_law_269 : decode cL_law 269 = .ok (.istore 17, 2) := by decide +kernel
theorem dL_law_271 : decode cL_law 271 = .ok (.iload 17, 2) := by decide +kernel
theorem dL_law_273 : decode cL_law 273 = .ok (.iload 16, 2) := by decide +kernel
theorem dL_law_275 : decode cL_law 275 = .ok (.if_icmp .ge 21, 3) := by decide +kernel
theorem dL_law_278 : decode cL_law 278 = .ok (.aload_n 1, 1) := by decide +kernel
theorem dL_law_279 : decode cL_law 279 = .ok (.iload_n 3, 1) := by decide +kernel
theorem dL_law_280 : decode cL_law 280 = .ok (.iload 4, 2) := by decide +kernel
theorem dL_law_282 : decode cL_law 282 = .ok (.invokestatic 67, 3) := by decide +kernel
theorem dL_law_285 : decode cL_law 285 = .ok (.ifCond .ne 5, 3) := by decide +kernel
theorem dL_law_288 : decode cL_law 288 = .ok (.iconst 0, 1) := by decide +kernel
theorem dL_law_289 : decode cL_law 289 = .ok (.ireturn, 1) := by decide +kernel
theorem dL_law_290 : decode cL_law 290 = .ok (.iinc 17 1, 3) := by decide +kernel
theorem dL_law_293 : decode cL_law 293 = .ok (.goto (-22), 3) := by decide +kernel
theorem dL_law_296 : decode cL_law 296 = .ok (.goto 578, 3) := by decide +kernel
theorem dL_law_299 : decode cL_law 299 = .ok (.iload 15, 2) := by decide +kernel
theorem dL_law_301 : decode cL_law 301 = .ok (.bipush 7, 2) := by decide +kernel
theorem dL_law_303 : decode cL_law 303 = .ok (.if_icmp .ne 92, 3) := by decide +kernel
theorem dL_law_306 : decode cL_law 306 = .ok (.iload 14, 2) := by decide +kernel
theorem dL_law_308 : decode cL_law 308 = .ok (.iconst 1, 1) := by decide +kernel
theorem dL_law_309 : decode cL_law 309 = .ok (.iand, 1) := by decide +kernel
theorem dL_law_310 : decode cL_law 310 = .ok (.ifCond .ne 7, 3) := by decide +kernel
theorem dL_law_313 : decode cL_law 313 = .ok (.iconst 1, 1) := by decide +kernel
theorem dL_law_314 : decode cL_law 314 = .ok (.goto 4, 3) := by decide +kernel
theorem dL_law_317 : decode cL_law 317 = .ok (.iconst 0, 1) := by decide +kernel
theorem dL_law_318 : decode cL_law 318 = .ok (.istore 16, 2) := by decide +kernel
theorem dL_law_320 : decode cL_law 320 = .ok (.iload 13, 2) := by decide +kernel
theorem dL_law_322 : decode cL_law 322 = .ok (.iconst 1, 1) := by decide +kernel
theorem dL_law_323 : decode cL_law 323 = .ok (.iand, 1) := by decide +kernel
theorem dL_law_324 : decode cL_law 324 = .ok (.ifCond .ne 20, 3) := by decide +kernel
theorem dL_law_327 : decode cL_law 327 = .ok (.aload_n 1, 1) := by decide +kernel
theorem dL_law_328 : decode cL_law 328 = .ok (.iconst 0, 1) := by decide +kernel
theorem dL_law_329 : decode cL_law 329 = .ok (.iload 16, 2) := by decide +kernel
theorem dL_law_331 : decode cL_law 331 = .ok (.iload 7, 2) := by decide +kernel
theorem dL_law_333 : decode cL_law 333 = .ok (.iload 8, 2) := by decide +kernel
theorem dL_law_335 : decode cL_law 335 = .ok (.invokestatic 70, 3) := by decide +kernel
theorem dL_law_338 : decode cL_law 338 = .ok (.ifCond .ne 22, 3) := by decide +kernel
theorem dL_law_341 : decode cL_law 341 = .ok (.goto 17, 3) := by decide +kernel
theorem dL_law_344 : decode cL_law 344 = .ok (.aload_n 1, 1) := by decide +kernel
theorem dL_law_345 : decode cL_law 345 = .ok (.iconst 1, 1) := by decide +kernel
theorem dL_law_346 : decode cL_law 346 = .ok (.iload 16, 2) := by decide +kernel
theorem dL_law_348 : decode cL_law 348 = .ok (.iload 8, 2) := by decide +kernel
theorem dL_law_350 : decode cL_law 350 = .ok (.iload 7, 2) := by decide +kernel
theorem dL_law_352 : decode cL_law 352 = .ok (.invokestatic 70, 3) := by decide +kernel
theorem dL_law_355 : decode cL_law 355 = .ok (.ifCond .ne 5, 3) := by decide +kernel
theorem dL_law_358 : decode cL_law 358 = .ok (.iconst 0, 1) := by decide +kernel
theorem dL_law_359 : decode cL_law 359 = .ok (.ireturn, 1) := by decide +kernel
theorem dL_law_360 : decode cL_law 360 = .ok (.iload 13, 2) := by decide +kernel
theorem dL_law_362 : decode cL_law 362 = .ok (.iconst 1, 1) := by decide +kernel
theorem dL_law_363 : decode cL_law 363 = .ok (.iand, 1) := by decide +kernel
theorem dL_law_364 : decode cL_law 364 = .ok (.ifCond .ne 8, 3) := by decide +kernel
theorem dL_law_367 : decode cL_law 367 = .ok (.iload 16, 2) := by decide +kernel
theorem dL_law_369 : decode cL_law 369 = .ok (.goto 5, 3) := by decide +kernel
theorem dL_law_372 : decode cL_law 372 = .ok (.iload 7, 2) := by decide +kernel
theorem dL_law_374 : decode cL_law 374 = .ok (.istore 7, 2) := by decide +kernel
theorem dL_law_376 : decode cL_law 376 = .ok (.iload 13, 2) := by decide +kernel
theorem dL_law_378 : decode cL_law 378 = .ok (.iconst 1, 1) := by decide +kernel
theorem dL_law_379 : decode cL_law 379 = .ok (.iand, 1) := by decide +kernel
theorem dL_law_380 : decode cL_law 380 = .ok (.ifCond .ne 8, 3) := by decide +kernel
theorem dL_law_383 : decode cL_law 383 = .ok (.iload 8, 2) := by decide +kernel
theorem dL_law_385 : decode cL_law 385 = .ok (.goto 5, 3) := by decide +kernel
theorem dL_law_388 : decode cL_law 388 = .ok (.iload 16, 2) := by decide +kernel
theorem dL_law_390 : decode cL_law 390 = .ok (.istore 8, 2) := by decide +kernel
theorem dL_law_392 : decode cL_law 392 = .ok (.goto 482, 3) := by decide +kernel
theorem dL_law_395 : decode cL_law 395 = .ok (.iload 15, 2) := by decide +kernel
theorem dL_law_397 : decode cL_law 397 = .ok (.bipush 8, 2) := by decide +kernel
theorem dL_law_399 : decode cL_law 399 = .ok (.if_icmp .ne 33, 3) := by decide +kernel
theorem dL_law_402 : decode cL_law 402 = .ok (.iload 14, 2) := by decide +kernel
theorem dL_law_404 : decode cL_law 404 = .ok (.iconst 3, 1) := by decide +kernel
theorem dL_law_405 : decode cL_law 405 = .ok (.iand, 1) := by decide +kernel
theorem dL_law_406 : decode cL_law 406 = .ok (.ifCond .ne 7, 3) := by decide +kernel
theorem dL_law_409 : decode cL_law 409 = .ok (.iconst 1, 1) := by decide +kernel
theorem dL_law_410 : decode cL_law 410 = .ok (.goto 4, 3) := by decide +kernel
theorem dL_law_413 : decode cL_law 413 = .ok (.iconst 0, 1) := by decide +kernel
theorem dL_law_414 : decode cL_law 414 = .ok (.istore 6, 2) := by decide +kernel
theorem dL_law_416 : decode cL_law 416 = .ok (.aload_n 1, 1) := by decide +kernel
theorem dL_law_417 : decode cL_law 417 = .ok (.iload 6, 2) := by decide +kernel
theorem dL_law_419 : decode cL_law 419 = .ok (.invokevirtual 74, 3) := by decide +kernel
theorem dL_law_422 : decode cL_law 422 = .ok (.aload_n 1, 1) := by decide +kernel
theorem dL_law_423 : decode cL_law 423 = .ok (.iconst 3, 1) := by decide +kernel
theorem dL_law_424 : decode cL_law 424 = .ok (.invokevirtual 19, 3) := by decide +kernel
theorem dL_law_427 : decode cL_law 427 = .ok (.if_icmp .eq 447, 3) := by decide +kernel
theorem dL_law_430 : decode cL_law 430 = .ok (.iconst 0, 1) := by decide +kernel
theorem dL_law_431 : decode cL_law 431 = .ok (.ireturn, 1) := by decide +kernel
theorem dL_law_432 : decode cL_law 432 = .ok (.iload 15, 2) := by decide +kernel
theorem dL_law_434 : decode cL_law 434 = .ok (.bipush 9, 2) := by decide +kernel
theorem dL_law_436 : decode cL_law 436 = .ok (.if_icmp .ne 129, 3) := by decide +kernel
theorem dL_law_439 : decode cL_law 439 = .ok (.iload 11, 2) := by decide +kernel
theorem dL_law_441 : decode cL_law 441 = .ok (.istore 16, 2) := by decide +kernel
theorem dL_law_443 : decode cL_law 443 = .ok (.iconst 0, 1) := by decide +kernel
theorem dL_law_444 : decode cL_law 444 = .ok (.istore 17, 2) := by decide +kernel
theorem dL_law_446 : decode cL_law 446 = .ok (.iconst 1, 1) := by decide +kernel
theorem dL_law_447 : decode cL_law 447 = .ok (.iload 13, 2) := by decide +kernel
theorem dL_law_449 : decode cL_law 449 = .ok (.bipush 8, 2) := by decide +kernel
theorem dL_law_451 : decode cL_law 451 = .ok (.invokestatic 61, 3) := by decide +kernel
theorem dL_law_454 : decode cL_law 454 = .ok (.iadd, 1) := by decide +kernel
theorem dL_law_455 : decode cL_law 455 = .ok (.istore 11, 2) := by decide +kernel
theorem dL_law_457 : decode cL_law 457 = .ok (.iload 14, 2) := by decide +kernel
theorem dL_law_459 : decode cL_law 459 = .ok (.iconst 3, 1) := by decide +kernel
theorem dL_law_460 : decode cL_law 460 = .ok (.invokestatic 61, 3) := by decide +kernel
theorem dL_law_463 : decode cL_law 463 = .ok (.istore 9, 2) := by decide +kernel
theorem dL_law_465 : decode cL_law 465 = .ok (.iload 11, 2) := by decide +kernel
theorem dL_law_467 : decode cL_law 467 = .ok (.istore 18, 2) := by decide +kernel
theorem dL_law_469 : decode cL_law 469 = .ok (.iload 18, 2) := by decide +kernel
theorem dL_law_471 : decode cL_law 471 = .ok (.iload 16, 2) := by decide +kernel
theorem dL_law_473 : decode cL_law 473 = .ok (.if_icmp .ge 29, 3) := by decide +kernel
theorem dL_law_476 : decode cL_law 476 = .ok (.iload 17, 2) := by decide +kernel
theorem dL_law_478 : decode cL_law 478 = .ok (.aload_n 1, 1) := by decide +kernel
theorem dL_law_479 : decode cL_law 479 = .ok (.iload 18, 2) := by decide +kernel
theorem dL_law_481 : decode cL_law 481 = .ok (.iconst 0, 1) := by decide +kernel
theorem dL_law_482 : decode cL_law 482 = .ok (.invokevirtual 22, 3) := by decide +kernel
theorem dL_law_485 : decode cL_law 485 = .ok (.ifCond .le 7, 3) := by decide +kernel
theorem dL_law_488 : decode cL_law 488 = .ok (.iconst 1, 1) := by decide +kernel
theorem dL_law_489 : decode cL_law 489 = .ok (.goto 4, 3) := by decide +kernel
theorem dL_law_492 : decode cL_law 492 = .ok (.iconst 0, 1) := by decide +kernel
theorem dL_law_493 : decode cL_law 493 = .ok (.iadd, 1) := by decide +kernel
theorem dL_law_494 : decode cL_law 494 = .ok (.istore 17, 2) := by decide +kernel
theorem dL_law_496 : decode cL_law 496 = .ok (.iinc 18 1, 3) := by decide +kernel
theorem dL_law_499 : decode cL_law 499 = .ok (.goto (-30), 3) := by decide +kernel
theorem dL_law_502 : decode cL_law 502 = .ok (.aload_n 1, 1) := by decide +kernel
theorem dL_law_503 : decode cL_law 503 = .ok (.bipush 8, 2) := by decide +kernel
theorem dL_law_505 : decode cL_law 505 = .ok (.invokevirtual 19, 3) := by decide +kernel
theorem dL_law_508 : decode cL_law 508 = .ok (.istore 18, 2) := by decide +kernel
theorem dL_law_510 : decode cL_law 510 = .ok (.aload_n 1, 1) := by decide +kernel
theorem dL_law_511 : decode cL_law 511 = .ok (.iload 11, 2) := by decide +kernel
theorem dL_law_513 : decode cL_law 513 = .ok (.iload 9, 2) := by decide +kernel
theorem dL_law_515 : decode cL_law 515 = .ok (.invokevirtual 77, 3) := by decide +kernel
theorem dL_law_518 : decode cL_law 518 = .ok (.iload 16, 2) := by decide +kernel
theorem dL_law_520 : decode cL_law 520 = .ok (.if_icmp .ne 40, 3) := by decide +kernel
theorem dL_law_523 : decode cL_law 523 = .ok (.aload_n 1, 1) := by decide +kernel
theorem dL_law_524 : decode cL_law 524 = .ok (.bipush 8, 2) := by decide +kernel
theorem dL_law_526 : decode cL_law 526 = .ok (.invokevirtual 19, 3) := by decide +kernel
theorem dL_law_529 : decode cL_law 529 = .ok (.iload 18, 2) := by decide +kernel
theorem dL_law_531 : decode cL_law 531 = .ok (.iload 17, 2) := by decide +kernel
theorem dL_law_533 : decode cL_law 533 = .ok (.iadd, 1) := by decide +kernel
theorem dL_law_534 : decode cL_law 534 = .ok (.if_icmp .ne 26, 3) := by decide +kernel
theorem dL_law_537 : decode cL_law 537 = .ok (.aload_n 1, 1) := by decide +kernel
theorem dL_law_538 : decode cL_law 538 = .ok (.bipush 9, 2) := by decide +kernel
theorem dL_law_540 : decode cL_law 540 = .ok (.iconst 0, 1) := by decide +kernel
theorem dL_law_541 : decode cL_law 541 = .ok (.invokevirtual 77, 3) := by decide +kernel
theorem dL_law_544 : decode cL_law 544 = .ok (.bipush (-2), 2) := by decide +kernel
theorem dL_law_546 : decode cL_law 546 = .ok (.if_icmp .ne 14, 3) := by decide +kernel
theorem dL_law_549 : decode cL_law 549 = .ok (.aload_n 1, 1) := by decide +kernel
theorem dL_law_550 : decode cL_law 550 = .ok (.iconst 1, 1) := by decide +kernel
theorem dL_law_551 : decode cL_law 551 = .ok (.iconst 3, 1) := by decide +kernel
theorem dL_law_552 : decode cL_law 552 = .ok (.invokevirtual 77, 3) := by decide +kernel
theorem dL_law_555 : decode cL_law 555 = .ok (.bipush (-2), 2) := by decide +kernel
theorem dL_law_557 : decode cL_law 557 = .ok (.if_icmp .eq 5, 3) := by decide +kernel
theorem dL_law_560 : decode cL_law 560 = .ok (.iconst 0, 1) := by decide +kernel
theorem dL_law_561 : decode cL_law 561 = .ok (.ireturn, 1) := by decide +kernel
theorem dL_law_562 : decode cL_law 562 = .ok (.goto 312, 3) := by decide +kernel
theorem dL_law_565 : decode cL_law 565 = .ok (.iload 15, 2) := by decide +kernel
theorem dL_law_567 : decode cL_law 567 = .ok (.bipush 10, 2) := by decide +kernel
theorem dL_law_569 : decode cL_law 569 = .ok (.if_icmp .ne 135, 3) := by decide +kernel
theorem dL_law_572 : decode cL_law 572 = .ok (.iload 10, 2) := by decide +kernel
theorem dL_law_574 : decode cL_law 574 = .ok (.istore 16, 2) := by decide +kernel
theorem dL_law_576 : decode cL_law 576 = .ok (.iconst 1, 1) := by decide +kernel
theorem dL_law_577 : decode cL_law 577 = .ok (.iload 14, 2) := by decide +kernel
theorem dL_law_579 : decode cL_law 579 = .ok (.bipush 64, 2) := by decide +kernel
theorem dL_law_581 : decode cL_law 581 = .ok (.invokestatic 61, 3) := by decide +kernel
theorem dL_law_584 : decode cL_law 584 = .ok (.iadd, 1) := by decide +kernel
theorem dL_law_585 : decode cL_law 585 = .ok (.istore 10, 2) := by decide +kernel
theorem dL_law_587 : decode cL_law 587 = .ok (.iload 13, 2) := by decide +kernel
theorem dL_law_589 : decode cL_law 589 = .ok (.sipush 300, 3) := by decide +kernel
theorem dL_law_592 : decode cL_law 592 = .ok (.invokestatic 61, 3) := by decide +kernel
theorem dL_law_595 : decode cL_law 595 = .ok (.istore 17, 2) := by decide +kernel
theorem dL_law_597 : decode cL_law 597 = .ok (.sipush 128, 3) := by decide +kernel
theorem dL_law_600 : decode cL_law 600 = .ok (.iload 10, 2) := by decide +kernel
theorem dL_law_602 : decode cL_law 602 = .ok (.iload 17, 2) := by decide +kernel
theorem dL_law_604 : decode cL_law 604 = .ok (.imul, 1) := by decide +kernel
theorem dL_law_605 : decode cL_law 605 = .ok (.isub, 1) := by decide +kernel
theorem dL_law_606 : decode cL_law 606 = .ok (.istore 18, 2) := by decide +kernel
theorem dL_law_608 : decode cL_law 608 = .ok (.iload 18, 2) := by decide +kernel
theorem dL_law_610 : decode cL_law 610 = .ok (.bipush 127, 2) := by decide +kernel
theorem dL_law_612 : decode cL_law 612 = .ok (.if_icmp .le 8, 3) := by decide +kernel
theorem dL_law_615 : decode cL_law 615 = .ok (.bipush 127, 2) := by decide +kernel
theorem dL_law_617 : decode cL_law 617 = .ok (.goto 15, 3) := by decide +kernel
theorem dL_law_620 : decode cL_law 620 = .ok (.iload 18, 2) := by decide +kernel
theorem dL_law_622 : decode cL_law 622 = .ok (.iconst 1, 1) := by decide +kernel
theorem dL_law_623 : decode cL_law 623 = .ok (.if_icmp .ge 7, 3) := by decide +kernel
theorem dL_law_626 : decode cL_law 626 = .ok (.iconst 1, 1) := by decide +kernel
theorem dL_law_627 : decode cL_law 627 = .ok (.goto 5, 3) := by decide +kernel
theorem dL_law_630 : decode cL_law 630 = .ok (.iload 18, 2) := by decide +kernel
theorem dL_law_632 : decode cL_law 632 = .ok (.istore 18, 2) := by decide +kernel
theorem dL_law_634 : decode cL_law 634 = .ok (.aload_n 1, 1) := by decide +kernel
theorem dL_law_635 : decode cL_law 635 = .ok (.iload 10, 2) := by decide +kernel
theorem dL_law_637 : decode cL_law 637 = .ok (.invokevirtual 80, 3) := by decide +kernel
theorem dL_law_640 : decode cL_law 640 = .ok (.iload 16, 2) := by decide +kernel
theorem dL_law_642 : decode cL_law 642 = .ok (.if_icmp .ne 57, 3) := by decide +kernel
theorem dL_law_645 : decode cL_law 645 = .ok (.aload_n 1, 1) := by decide +kernel
theorem dL_law_646 : decode cL_law 646 = .ok (.iload 17, 2) := by decide +kernel
theorem dL_law_648 : decode cL_law 648 = .ok (.invokevirtual 35, 3) := by decide +kernel
theorem dL_law_651 : decode cL_law 651 = .ok (.iload 18, 2) := by decide +kernel
theorem dL_law_653 : decode cL_law 653 = .ok (.if_icmp .ne 46, 3) := by decide +kernel
theorem dL_law_656 : decode cL_law 656 = .ok (.aload_n 1, 1) := by decide +kernel
theorem dL_law_657 : decode cL_law 657 = .ok (.iconst 0, 1) := by decide +kernel
theorem dL_law_658 : decode cL_law 658 = .ok (.invokevirtual 80, 3) := by decide +kernel
theorem dL_law_661 : decode cL_law 661 = .ok (.bipush (-2), 2) := by decide +kernel
theorem dL_law_663 : decode cL_law 663 = .ok (.if_icmp .ne 36, 3) := by decide +kernel
theorem dL_law_666 : decode cL_law 666 = .ok (.aload_n 1, 1) := by decide +kernel
theorem dL_law_667 : decode cL_law 667 = .ok (.bipush 65, 2) := by decide +kernel
theorem dL_law_669 : decode cL_law 669 = .ok (.invokevirtual 80, 3) := by decide +kernel
theorem dL_law_672 : decode cL_law 672 = .ok (.bipush (-2), 2) := by decide +kernel
theorem dL_law_674 : decode cL_law 674 = .ok (.if_icmp .ne 25, 3) := by decide +kernel
theorem dL_law_677 : decode cL_law 677 = .ok (.aload_n 1, 1) := by decide +kernel
theorem dL_law_678 : decode cL_law 678 = .ok (.sipush 1001, 3) := by decide +kernel
theorem dL_law_681 : decode cL_law 681 = .ok (.invokevirtual 35, 3) := by decide +kernel
theorem dL_law_684 : decode cL_law 684 = .ok (.bipush (-2), 2) := by decide +kernel
theorem dL_law_686 : decode cL_law 686 = .ok (.if_icmp .ne 13, 3) := by decide +kernel
theorem dL_law_689 : decode cL_law 689 = .ok (.aload_n 1, 1) := by decide +kernel
theorem dL_law_690 : decode cL_law 690 = .ok (.iconst (-1), 1) := by decide +kernel
theorem dL_law_691 : decode cL_law 691 = .ok (.invokevirtual 35, 3) := by decide +kernel
theorem dL_law_694 : decode cL_law 694 = .ok (.bipush (-2), 2) := by decide +kernel
theorem dL_law_696 : decode cL_law 696 = .ok (.if_icmp .eq 5, 3) := by decide +kernel
theorem dL_law_699 : decode cL_law 699 = .ok (.iconst 0, 1) := by decide +kernel
theorem dL_law_700 : decode cL_law 700 = .ok (.ireturn, 1) := by decide +kernel
theorem dL_law_701 : decode cL_law 701 = .ok (.goto 173, 3) := by decide +kernel
theorem dL_law_704 : decode cL_law 704 = .ok (.iload 15, 2) := by decide +kernel
theorem dL_law_706 : decode cL_law 706 = .ok (.bipush 11, 2) := by decide +kernel
theorem dL_law_708 : decode cL_law 708 = .ok (.if_icmp .ne 90, 3) := by decide +kernel
theorem dL_law_711 : decode cL_law 711 = .ok (.iload 14, 2) := by decide +kernel
theorem dL_law_713 : decode cL_law 713 = .ok (.iconst 1, 1) := by decide +kernel
theorem dL_law_714 : decode cL_law 714 = .ok (.iand, 1) := by decide +kernel
theorem dL_law_715 : decode cL_law 715 = .ok (.ifCond .ne 7, 3) := by decide +kernel
theorem dL_law_718 : decode cL_law 718 = .ok (.iconst 1, 1) := by decide +kernel
theorem dL_law_719 : decode cL_law 719 = .ok (.goto 4, 3) := by decide +kernel
theorem dL_law_722 : decode cL_law 722 = .ok (.iconst 0, 1) := by decide +kernel
theorem dL_law_723 : decode cL_law 723 = .ok (.istore 16, 2) := by decide +kernel
theorem dL_law_725 : decode cL_law 725 = .ok (.iload 13, 2) := by decide +kernel
theorem dL_law_727 : decode cL_law 727 = .ok (.iconst 1, 1) := by decide +kernel
theorem dL_law_728 : decode cL_law 728 = .ok (.iand, 1) := by decide +kernel
theorem dL_law_729 : decode cL_law 729 = .ok (.ifCond .ne 36, 3) := by decide +kernel
theorem dL_law_732 : decode cL_law 732 = .ok (.aload_n 1, 1) := by decide +kernel
theorem dL_law_733 : decode cL_law 733 = .ok (.iload 16, 2) := by decide +kernel
theorem dL_law_735 : decode cL_law 735 = .ok (.invokevirtual 83, 3) := by decide +kernel
theorem dL_law_738 : decode cL_law 738 = .ok (.istore 17, 2) := by decide +kernel
theorem dL_law_740 : decode cL_law 740 = .ok (.iload 17, 2) := by decide +kernel
theorem dL_law_742 : decode cL_law 742 = .ok (.ifCond .lt 18, 3) := by decide +kernel
theorem dL_law_745 : decode cL_law 745 = .ok (.iload 17, 2) := by decide +kernel
theorem dL_law_747 : decode cL_law 747 = .ok (.iconst 1, 1) := by decide +kernel
theorem dL_law_748 : decode cL_law 748 = .ok (.if_icmp .gt 12, 3) := by decide +kernel
theorem dL_law_751 : decode cL_law 751 = .ok (.aload_n 1, 1) := by decide +kernel
theorem dL_law_752 : decode cL_law 752 = .ok (.iload 16, 2) := by decide +kernel
theorem dL_law_754 : decode cL_law 754 = .ok (.invokevirtual 83, 3) := by decide +kernel
theorem dL_law_757 : decode cL_law 757 = .ok (.ifCond .eq 5, 3) := by decide +kernel
theorem dL_law_760 : decode cL_law 760 = .ok (.iconst 0, 1) := by decide +kernel
theorem dL_law_761 : decode cL_law 761 = .ok (.ireturn, 1) := by decide +kernel
theorem dL_law_762 : decode cL_law 762 = .ok (.goto 33, 3) := by decide +kernel
theorem dL_law_765 : decode cL_law 765 = .ok (.aload_n 1, 1) := by decide +kernel
theorem dL_law_766 : decode cL_law 766 = .ok (.iload 16, 2) := by decide +kernel
theorem dL_law_768 : decode cL_law 768 = .ok (.invokevirtual 86, 3) := by decide +kernel
theorem dL_law_771 : decode cL_law 771 = .ok (.istore 17, 2) := by decide +kernel
theorem dL_law_773 : decode cL_law 773 = .ok (.iload 17, 2) := by decide +kernel
theorem dL_law_775 : decode cL_law 775 = .ok (.ifCond .lt 18, 3) := by decide +kernel
theorem dL_law_778 : decode cL_law 778 = .ok (.iload 17, 2) := by decide +kernel
theorem dL_law_780 : decode cL_law 780 = .ok (.iconst 1, 1) := by decide +kernel
theorem dL_law_781 : decode cL_law 781 = .ok (.if_icmp .gt 12, 3) := by decide +kernel
theorem dL_law_784 : decode cL_law 784 = .ok (.aload_n 1, 1) := by decide +kernel
theorem dL_law_785 : decode cL_law 785 = .ok (.iload 16, 2) := by decide +kernel
theorem dL_law_787 : decode cL_law 787 = .ok (.invokevirtual 86, 3) := by decide +kernel
theorem dL_law_790 : decode cL_law 790 = .ok (.ifCond .eq 5, 3) := by decide +kernel
theorem dL_law_793 : decode cL_law 793 = .ok (.iconst 0, 1) := by decide +kernel
theorem dL_law_794 : decode cL_law 794 = .ok (.ireturn, 1) := by decide +kernel
theorem dL_law_795 : decode cL_law 795 = .ok (.goto 79, 3) := by decide +kernel
theorem dL_law_798 : decode cL_law 798 = .ok (.iload 14, 2) := by decide +kernel
theorem dL_law_800 : decode cL_law 800 = .ok (.iconst 3, 1) := by decide +kernel
theorem dL_law_801 : decode cL_law 801 = .ok (.iand, 1) := by decide +kernel
theorem dL_law_802 : decode cL_law 802 = .ok (.ifCond .ne 41, 3) := by decide +kernel
theorem dL_law_805 : decode cL_law 805 = .ok (.aload_n 1, 1) := by decide +kernel
theorem dL_law_806 : decode cL_law 806 = .ok (.iconst 2, 1) := by decide +kernel
theorem dL_law_807 : decode cL_law 807 = .ok (.invokevirtual 19, 3) := by decide +kernel
theorem dL_law_810 : decode cL_law 810 = .ok (.istore 16, 2) := by decide +kernel
theorem dL_law_812 : decode cL_law 812 = .ok (.aload_n 1, 1) := by decide +kernel
theorem dL_law_813 : decode cL_law 813 = .ok (.invokevirtual 89, 3) := by decide +kernel
theorem dL_law_816 : decode cL_law 816 = .ok (.iload 16, 2) := by decide +kernel
theorem dL_law_818 : decode cL_law 818 = .ok (.if_icmp .ne 20, 3) := by decide +kernel
theorem dL_law_821 : decode cL_law 821 = .ok (.aload_n 1, 1) := by decide +kernel
theorem dL_law_822 : decode cL_law 822 = .ok (.iconst 2, 1) := by decide +kernel
theorem dL_law_823 : decode cL_law 823 = .ok (.invokevirtual 19, 3) := by decide +kernel
theorem dL_law_826 : decode cL_law 826 = .ok (.ifCond .ne 12, 3) := by decide +kernel
theorem dL_law_829 : decode cL_law 829 = .ok (.aload_n 1, 1) := by decide +kernel
theorem dL_law_830 : decode cL_law 830 = .ok (.invokevirtual 38, 3) := by decide +kernel
theorem dL_law_833 : decode cL_law 833 = .ok (.bipush (-3), 2) := by decide +kernel
theorem dL_law_835 : decode cL_law 835 = .ok (.if_icmp .eq 5, 3) := by decide +kernel
theorem dL_law_838 : decode cL_law 838 = .ok (.iconst 0, 1) := by decide +kernel
theorem dL_law_839 : decode cL_law 839 = .ok (.ireturn, 1) := by decide +kernel
theorem dL_law_840 : decode cL_law 840 = .ok (.goto 34, 3) := by decide +kernel
theorem dL_law_843 : decode cL_law 843 = .ok (.aload_n 1, 1) := by decide +kernel
theorem dL_law_844 : decode cL_law 844 = .ok (.iload 5, 2) := by decide +kernel
theorem dL_law_846 : decode cL_law 846 = .ok (.iconst 1, 1) := by decide +kernel
theorem dL_law_847 : decode cL_law 847 = .ok (.iload 14, 2) := by decide +kernel
theorem dL_law_849 : decode cL_law 849 = .ok (.iconst 2, 1) := by decide +kernel
theorem dL_law_850 : decode cL_law 850 = .ok (.ishr, 1) := by decide +kernel
theorem dL_law_851 : decode cL_law 851 = .ok (.bipush 20, 2) := by decide +kernel
theorem dL_law_853 : decode cL_law 853 = .ok (.invokestatic 61, 3) := by decide +kernel
theorem dL_law_856 : decode cL_law 856 = .ok (.iadd, 1) := by decide +kernel
theorem dL_law_857 : decode cL_law 857 = .ok (.invokestatic 92, 3) := by decide +kernel
theorem dL_law_860 : decode cL_law 860 = .ok (.ifCond .eq 12, 3) := by decide +kernel
theorem dL_law_863 : decode cL_law 863 = .ok (.aload_n 1, 1) := by decide +kernel
theorem dL_law_864 : decode cL_law 864 = .ok (.iload 5, 2) := by decide +kernel
theorem dL_law_866 : decode cL_law 866 = .ok (.invokestatic 95, 3) := by decide +kernel
theorem dL_law_869 : decode cL_law 869 = .ok (.ifCond .ne 5, 3) := by decide +kernel
theorem dL_law_872 : decode cL_law 872 = .ok (.iconst 0, 1) := by decide +kernel
theorem dL_law_873 : decode cL_law 873 = .ok (.ireturn, 1) := by decide +kernel
theorem dL_law_874 : decode cL_law 874 = .ok (.aload_n 1, 1) := by decide +kernel
theorem dL_law_875 : decode cL_law 875 = .ok (.iload_n 3, 1) := by decide +kernel
theorem dL_law_876 : decode cL_law 876 = .ok (.iload 4, 2) := by decide +kernel
theorem dL_law_878 : decode cL_law 878 = .ok (.iload 6, 2) := by decide +kernel
theorem dL_law_880 : decode cL_law 880 = .ok (.invokestatic 99, 3) := by decide +kernel
theorem dL_law_883 : decode cL_law 883 = .ok (.ifCond .eq 18, 3) := by decide +kernel
theorem dL_law_886 : decode cL_law 886 = .ok (.aload_n 1, 1) := by decide +kernel
theorem dL_law_887 : decode cL_law 887 = .ok (.iload 9, 2) := by decide +kernel
theorem dL_law_889 : decode cL_law 889 = .ok (.iload 7, 2) := by decide +kernel
theorem dL_law_891 : decode cL_law 891 = .ok (.iload 8, 2) := by decide +kernel
theorem dL_law_893 : decode cL_law 893 = .ok (.iload 5, 2) := by decide +kernel
theorem dL_law_895 : decode cL_law 895 = .ok (.invokestatic 103, 3) := by decide +kernel
theorem dL_law_898 : decode cL_law 898 = .ok (.ifCond .ne 5, 3) := by decide +kernel
theorem dL_law_901 : decode cL_law 901 = .ok (.iconst 0, 1) := by decide +kernel
theorem dL_law_902 : decode cL_law 902 = .ok (.ireturn, 1) := by decide +kernel
theorem dL_law_903 : decode cL_law 903 = .ok (.iinc 12 1, 3) := by decide +kernel
theorem dL_law_906 : decode cL_law 906 = .ok (.goto (-808), 3) := by decide +kernel
theorem dL_law_909 : decode cL_law 909 = .ok (.aload_n 1, 1) := by decide +kernel
theorem dL_law_910 : decode cL_law 910 = .ok (.iload 5, 2) := by decide +kernel
theorem dL_law_912 : decode cL_law 912 = .ok (.iconst 0, 1) := by decide +kernel
theorem dL_law_913 : decode cL_law 913 = .ok (.invokevirtual 15, 3) := by decide +kernel
theorem dL_law_916 : decode cL_law 916 = .ok (.iconst (-1), 1) := by decide +kernel
theorem dL_law_917 : decode cL_law 917 = .ok (.if_icmp .ne 88, 3) := by decide +kernel
theorem dL_law_920 : decode cL_law 920 = .ok (.aload_n 1, 1) := by decide +kernel
theorem dL_law_921 : decode cL_law 921 = .ok (.iconst (-1), 1) := by decide +kernel
theorem dL_law_922 : decode cL_law 922 = .ok (.iconst 0, 1) := by decide +kernel
theorem dL_law_923 : decode cL_law 923 = .ok (.invokevirtual 15, 3) := by decide +kernel
theorem dL_law_926 : decode cL_law 926 = .ok (.iconst (-1), 1) := by decide +kernel
theorem dL_law_927 : decode cL_law 927 = .ok (.if_icmp .ne 78, 3) := by decide +kernel
theorem dL_law_930 : decode cL_law 930 = .ok (.aload_n 1, 1) := by decide +kernel
theorem dL_law_931 : decode cL_law 931 = .ok (.iconst 0, 1) := by decide +kernel
theorem dL_law_932 : decode cL_law 932 = .ok (.invokevirtual 32, 3) := by decide +kernel
theorem dL_law_935 : decode cL_law 935 = .ok (.bipush (-2), 2) := by decide +kernel
theorem dL_law_937 : decode cL_law 937 = .ok (.if_icmp .ne 68, 3) := by decide +kernel
theorem dL_law_940 : decode cL_law 940 = .ok (.aload_n 1, 1) := by decide +kernel
theorem dL_law_941 : decode cL_law 941 = .ok (.sipush 1001, 3) := by decide +kernel
theorem dL_law_944 : decode cL_law 944 = .ok (.invokevirtual 32, 3) := by decide +kernel
theorem dL_law_947 : decode cL_law 947 = .ok (.bipush (-2), 2) := by decide +kernel
theorem dL_law_949 : decode cL_law 949 = .ok (.if_icmp .ne 56, 3) := by decide +kernel
theorem dL_law_952 : decode cL_law 952 = .ok (.aload_n 1, 1) := by decide +kernel
theorem dL_law_953 : decode cL_law 953 = .ok (.bipush 12, 2) := by decide +kernel
theorem dL_law_955 : decode cL_law 955 = .ok (.invokevirtual 19, 3) := by decide +kernel
theorem dL_law_958 : decode cL_law 958 = .ok (.bipush (-2), 2) := by decide +kernel
theorem dL_law_960 : decode cL_law 960 = .ok (.if_icmp .ne 45, 3) := by decide +kernel
theorem dL_law_963 : decode cL_law 963 = .ok (.aload_n 1, 1) := by decide +kernel
theorem dL_law_964 : decode cL_law 964 = .ok (.iconst 2, 1) := by decide +kernel
theorem dL_law_965 : decode cL_law 965 = .ok (.iconst 3, 1) := by decide +kernel
theorem dL_law_966 : decode cL_law 966 = .ok (.invokevirtual 64, 3) := by decide +kernel
theorem dL_law_969 : decode cL_law 969 = .ok (.bipush 6, 2) := by decide +kernel
theorem dL_law_971 : decode cL_law 971 = .ok (.if_icmp .ne 34, 3) := by decide +kernel
theorem dL_law_974 : decode cL_law 974 = .ok (.aload_n 1, 1) := by decide +kernel
theorem dL_law_975 : decode cL_law 975 = .ok (.iconst 0, 1) := by decide +kernel
theorem dL_law_976 : decode cL_law 976 = .ok (.invokevirtual 19, 3) := by decide +kernel
theorem dL_law_979 : decode cL_law 979 = .ok (.ifCond .ne 26, 3) := by decide +kernel
theorem dL_law_982 : decode cL_law 982 = .ok (.aload_n 1, 1) := by decide +kernel
theorem dL_law_983 : decode cL_law 983 = .ok (.bipush 6, 2) := by decide +kernel
theorem dL_law_985 : decode cL_law 985 = .ok (.invokevirtual 19, 3) := by decide +kernel
theorem dL_law_988 : decode cL_law 988 = .ok (.ifCond .ne 17, 3) := by decide +kernel
theorem dL_law_991 : decode cL_law 991 = .ok (.aload_n 1, 1) := by decide +kernel
theorem dL_law_992 : decode cL_law 992 = .ok (.iconst 5, 1) := by decide +kernel
theorem dL_law_993 : decode cL_law 993 = .ok (.invokevirtual 19, 3) := by decide +kernel
theorem dL_law_996 : decode cL_law 996 = .ok (.iload 11, 2) := by decide +kernel
theorem dL_law_998 : decode cL_law 998 = .ok (.if_icmp .ne 7, 3) := by decide +kernel
theorem dL_law_1001 : decode cL_law 1001 = .ok (.iconst 1, 1) := by decide +kernel
theorem dL_law_1002 : decode cL_law 1002 = .ok (.goto 4, 3) := by decide +kernel
theorem dL_law_1005 : decode cL_law 1005 = .ok (.iconst 0, 1) := by decide +kernel
theorem dL_law_1006 : decode cL_law 1006 = .ok (.ireturn, 1) := by decide +kernel
