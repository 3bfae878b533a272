theorem dX7_hat_147 : decode cX7_hat 147 = .ok (.istore 8, 2) := by decide +kernel
theorem dX7_hat_149 : decode cX7_hat 149 = .ok (.iload 8, 2) := by decide +kernel
theorem dX7_hat_151 : decode cX7_hat 151 = .ok (.aload_n 0, 1) := by decide +kernel
theorem dX7_hat_152 : decode cX7_hat 152 = .ok (.getfield 240, 3) := by decide +kernel
theorem dX7_hat_155 : decode cX7_hat 155 = .ok (.if_icmp .ge 111, 3) := by decide +kernel
theorem dX7_hat_158 : decode cX7_hat 158 = .ok (.iload 7, 2) := by decide +kernel
theorem dX7_hat_160 : decode cX7_hat 160 = .ok (.ifCond .le 106, 3) := by decide +kernel
theorem dX7_hat_163 : decode cX7_hat 163 = .ok (.aload_n 0, 1) := by decide +kernel
theorem dX7_hat_164 : decode cX7_hat 164 = .ok (.getfield 68, 3) := by decide +kernel
theorem dX7_hat_167 : decode cX7_hat 167 = .ok (.iload 8, 2) := by decide +kernel
theorem dX7_hat_169 : decode cX7_hat 169 = .ok (.iaload, 1) := by decide +kernel
theorem dX7_hat_170 : decode cX7_hat 170 = .ok (.iload_n 1, 1) := by decide +kernel
theorem dX7_hat_171 : decode cX7_hat 171 = .ok (.if_icmp .ne 89, 3) := by decide +kernel
theorem dX7_hat_174 : decode cX7_hat 174 = .ok (.aload_n 0, 1) := by decide +kernel
theorem dX7_hat_175 : decode cX7_hat 175 = .ok (.getfield 65, 3) := by decide +kernel
theorem dX7_hat_178 : decode cX7_hat 178 = .ok (.iload 8, 2) := by decide +kernel
theorem dX7_hat_180 : decode cX7_hat 180 = .ok (.iaload, 1) := by decide +kernel
theorem dX7_hat_181 : decode cX7_hat 181 = .ok (.ifCond .ne 6, 3) := by decide +kernel
theorem dX7_hat_184 : decode cX7_hat 184 = .ok (.goto 76, 3) := by decide +kernel
theorem dX7_hat_187 : decode cX7_hat 187 = .ok (.aload_n 0, 1) := by decide +kernel
theorem dX7_hat_188 : decode cX7_hat 188 = .ok (.getfield 65, 3) := by decide +kernel
theorem dX7_hat_191 : decode cX7_hat 191 = .ok (.iload 8, 2) := by decide +kernel
theorem dX7_hat_193 : decode cX7_hat 193 = .ok (.iaload, 1) := by decide +kernel
theorem dX7_hat_194 : decode cX7_hat 194 = .ok (.iload 7, 2) := by decide +kernel
theorem dX7_hat_196 : decode cX7_hat 196 = .ok (.if_icmp .ge 13, 3) := by decide +kernel
theorem dX7_hat_199 : decode cX7_hat 199 = .ok (.aload_n 0, 1) := by decide +kernel
theorem dX7_hat_200 : decode cX7_hat 200 = .ok (.getfield 65, 3) := by decide +kernel
theorem dX7_hat_203 : decode cX7_hat 203 = .ok (.iload 8, 2) := by decide +kernel
theorem dX7_hat_205 : decode cX7_hat 205 = .ok (.iaload, 1) := by decide +kernel
theorem dX7_hat_206 : decode cX7_hat 206 = .ok (.goto 5, 3) := by decide +kernel
theorem dX7_hat_209 : decode cX7_hat 209 = .ok (.iload 7, 2) := by decide +kernel
theorem dX7_hat_211 : decode cX7_hat 211 = .ok (.istore 9, 2) := by decide +kernel
theorem dX7_hat_213 : decode cX7_hat 213 = .ok (.aload_n 0, 1) := by decide +kernel
theorem dX7_hat_214 : decode cX7_hat 214 = .ok (.getfield 65, 3) := by decide +kernel
theorem dX7_hat_217 : decode cX7_hat 217 = .ok (.iload 8, 2) := by decide +kernel
theorem dX7_hat_219 : decode cX7_hat 219 = .ok (.dup2, 1) := by decide +kernel
theorem dX7_hat_220 : decode cX7_hat 220 = .ok (.iaload, 1) := by decide +kernel
theorem dX7_hat_221 : decode cX7_hat 221 = .ok (.iload 9, 2) := by decide +kernel
theorem dX7_hat_223 : decode cX7_hat 223 = .ok (.isub, 1) := by decide +kernel
theorem dX7_hat_224 : decode cX7_hat 224 = .ok (.iastore, 1) := by decide +kernel
theorem dX7_hat_225 : decode cX7_hat 225 = .ok (.iload 7, 2) := by decide +kernel
theorem dX7_hat_227 : decode cX7_hat 227 = .ok (.iload 9, 2) := by decide +kernel
theorem dX7_hat_229 : decode cX7_hat 229 = .ok (.isub, 1) := by decide +kernel
theorem dX7_hat_230 : decode cX7_hat 230 = .ok (.istore 7, 2) := by decide +kernel
theorem dX7_hat_232 : decode cX7_hat 232 = .ok (.iload 5, 2) := by decide +kernel
theorem dX7_hat_234 : decode cX7_hat 234 = .ok (.aload_n 0, 1) := by decide +kernel
theorem dX7_hat_235 : decode cX7_hat 235 = .ok (.getfield 71, 3) := by decide +kernel
theorem dX7_hat_238 : decode cX7_hat 238 = .ok (.iload 8, 2) := by decide +kernel
theorem dX7_hat_240 : decode cX7_hat 240 = .ok (.iaload, 1) := by decide +kernel
theorem dX7_hat_241 : decode cX7_hat 241 = .ok (.ior, 1) := by decide +kernel
theorem dX7_hat_242 : decode cX7_hat 242 = .ok (.istore 5, 2) := by decide +kernel
theorem dX7_hat_244 : decode cX7_hat 244 = .ok (.iload 8, 2) := by decide +kernel
theorem dX7_hat_246 : decode cX7_hat 246 = .ok (.bipush 31, 2) := by decide +kernel
theorem dX7_hat_248 : decode cX7_hat 248 = .ok (.if_icmp .ge 12, 3) := by decide +kernel
theorem dX7_hat_251 : decode cX7_hat 251 = .ok (.iload 6, 2) := by decide +kernel
theorem dX7_hat_253 : decode cX7_hat 253 = .ok (.iconst 1, 1) := by decide +kernel
theorem dX7_hat_254 : decode cX7_hat 254 = .ok (.iload 8, 2) := by decide +kernel
theorem dX7_hat_256 : decode cX7_hat 256 = .ok (.ishl, 1) := by decide +kernel
theorem dX7_hat_257 : decode cX7_hat 257 = .ok (.ior, 1) := by decide +kernel
theorem dX7_hat_258 : decode cX7_hat 258 = .ok (.istore 6, 2) := by decide +kernel
theorem dX7_hat_260 : decode cX7_hat 260 = .ok (.iinc 8 1, 3) := by decide +kernel
theorem dX7_hat_263 : decode cX7_hat 263 = .ok (.goto (-114), 3) := by decide +kernel
theorem dX7_hat_266 : decode cX7_hat 266 = .ok (.aload_n 0, 1) := by decide +kernel
theorem dX7_hat_267 : decode cX7_hat 267 = .ok (.getfield 77, 3) := by decide +kernel
theorem dX7_hat_270 : decode cX7_hat 270 = .ok (.aload_n 0, 1) := by decide +kernel
theorem dX7_hat_271 : decode cX7_hat 271 = .ok (.getfield 243, 3) := by decide +kernel
theorem dX7_hat_274 : decode cX7_hat 274 = .ok (.iload_n 3, 1) := by decide +kernel
theorem dX7_hat_275 : decode cX7_hat 275 = .ok (.iastore, 1) := by decide +kernel
theorem dX7_hat_276 : decode cX7_hat 276 = .ok (.aload_n 0, 1) := by decide +kernel
theorem dX7_hat_277 : decode cX7_hat 277 = .ok (.getfield 80, 3) := by decide +kernel
theorem dX7_hat_280 : decode cX7_hat 280 = .ok (.aload_n 0, 1) := by decide +kernel
theorem dX7_hat_281 : decode cX7_hat 281 = .ok (.getfield 243, 3) := by decide +kernel
theorem dX7_hat_284 : decode cX7_hat 284 = .ok (.iload_n 2, 1) := by decide +kernel
theorem dX7_hat_285 : decode cX7_hat 285 = .ok (.iload_n 1, 1) := by decide +kernel
theorem dX7_hat_286 : decode cX7_hat 286 = .ok (.idiv, 1) := by decide +kernel
theorem dX7_hat_287 : decode cX7_hat 287 = .ok (.iastore, 1) := by decide +kernel
theorem dX7_hat_288 : decode cX7_hat 288 = .ok (.aload_n 0, 1) := by decide +kernel
theorem dX7_hat_289 : decode cX7_hat 289 = .ok (.getfield 83, 3) := by decide +kernel
theorem dX7_hat_292 : decode cX7_hat 292 = .ok (.aload_n 0, 1) := by decide +kernel
theorem dX7_hat_293 : decode cX7_hat 293 = .ok (.getfield 243, 3) := by decide +kernel
theorem dX7_hat_296 : decode cX7_hat 296 = .ok (.iload 5, 2) := by decide +kernel
theorem dX7_hat_298 : decode cX7_hat 298 = .ok (.iastore, 1) := by decide +kernel
theorem dX7_hat_299 : decode cX7_hat 299 = .ok (.aload_n 0, 1) := by decide +kernel
theorem dX7_hat_300 : decode cX7_hat 300 = .ok (.getfield 86, 3) := by decide +kernel
theorem dX7_hat_303 : decode cX7_hat 303 = .ok (.aload_n 0, 1) := by decide +kernel
theorem dX7_hat_304 : decode cX7_hat 304 = .ok (.getfield 243, 3) := by decide +kernel
theorem dX7_hat_307 : decode cX7_hat 307 = .ok (.iload 6, 2) := by decide +kernel
theorem dX7_hat_309 : decode cX7_hat 309 = .ok (.iastore, 1) := by decide +kernel
theorem dX7_hat_310 : decode cX7_hat 310 = .ok (.aload_n 0, 1) := by decide +kernel
theorem dX7_hat_311 : decode cX7_hat 311 = .ok (.dup, 1) := by decide +kernel
theorem dX7_hat_312 : decode cX7_hat 312 = .ok (.getfield 243, 3) := by decide +kernel
theorem dX7_hat_315 : decode cX7_hat 315 = .ok (.iconst 1, 1) := by decide +kernel
theorem dX7_hat_316 : decode cX7_hat 316 = .ok (.iadd, 1) := by decide +kernel
theorem dX7_hat_317 : decode cX7_hat 317 = .ok (.putfield 243, 3) := by decide +kernel
theorem dX7_hat_320 : decode cX7_hat 320 = .ok (.aload_n 0, 1) := by decide +kernel
theorem dX7_hat_321 : decode cX7_hat 321 = .ok (.getfield 243, 3) := by decide +kernel
theorem dX7_hat_324 : decode cX7_hat 324 = .ok (.iconst 1, 1) := by decide +kernel
theorem dX7_hat_325 : decode cX7_hat 325 = .ok (.isub, 1) := by decide +kernel
theorem dX7_hat_326 : decode cX7_hat 326 = .ok (.ireturn, 1) := by decide +kernel
theorem dX7_sewn_0 : decode cX7_sewn 0 = .ok (.aload_n 0, 1) := by decide +kernel
theorem dX7_sewn_1 : decode cX7_sewn 1 = .ok (.iconst 0, 1) := by decide +kernel
theorem dX7_sewn_2 : decode cX7_sewn 2 = .ok (.putfield 95, 3) := by decide +kernel
theorem dX7_sewn_5 : decode cX7_sewn 5 = .ok (.aload_n 0, 1) := by decide +kernel
theorem dX7_sewn_6 : decode cX7_sewn 6 = .ok (.iload_n 1, 1) := by decide +kernel
theorem dX7_sewn_7 : decode cX7_sewn 7 = .ok (.ifCond .lt 24, 3) := by decide +kernel
theorem dX7_sewn_10 : decode cX7_sewn 10 = .ok (.iload_n 1, 1) := by decide +kernel
theorem dX7_sewn_11 : decode cX7_sewn 11 = .ok (.aload_n 0, 1) := by decide +kernel
theorem dX7_sewn_12 : decode cX7_sewn 12 = .ok (.getfield 243, 3) := by decide +kernel
theorem dX7_sewn_15 : decode cX7_sewn 15 = .ok (.if_icmp .ge 16, 3) := by decide +kernel
theorem dX7_sewn_18 : decode cX7_sewn 18 = .ok (.iload_n 2, 1) := by decide +kernel
theorem dX7_sewn_19 : decode cX7_sewn 19 = .ok (.ifCond .lt 12, 3) := by decide +kernel
theorem dX7_sewn_22 : decode cX7_sewn 22 = .ok (.iload_n 2, 1) := by decide +kernel
theorem dX7_sewn_23 : decode cX7_sewn 23 = .ok (.iconst 3, 1) := by decide +kernel
theorem dX7_sewn_24 : decode cX7_sewn 24 = .ok (.if_icmp .gt 7, 3) := by decide +kernel
theorem dX7_sewn_27 : decode cX7_sewn 27 = .ok (.iconst 1, 1) := by decide +kernel
theorem dX7_sewn_28 : decode cX7_sewn 28 = .ok (.goto 4, 3) := by decide +kernel
theorem dX7_sewn_31 : decode cX7_sewn 31 = .ok (.iconst 0, 1) := by decide +kernel
theorem dX7_sewn_32 : decode cX7_sewn 32 = .ok (.iconst 1, 1) := by decide +kernel
theorem dX7_sewn_33 : decode cX7_sewn 33 = .ok (.invokevirtual 157, 3) := by decide +kernel
theorem dX7_sewn_36 : decode cX7_sewn 36 = .ok (.ifCond .ne 5, 3) := by decide +kernel
theorem dX7_sewn_39 : decode cX7_sewn 39 = .ok (.iconst 0, 1) := by decide +kernel
theorem dX7_sewn_40 : decode cX7_sewn 40 = .ok (.ireturn, 1) := by decide +kernel
theorem dX7_sewn_41 : decode cX7_sewn 41 = .ok (.iload_n 2, 1) := by decide +kernel
theorem dX7_sewn_42 : decode cX7_sewn 42 = .ok (.ifCond .ne 12, 3) := by decide +kernel
theorem dX7_sewn_45 : decode cX7_sewn 45 = .ok (.aload_n 0, 1) := by decide +kernel
theorem dX7_sewn_46 : decode cX7_sewn 46 = .ok (.getfield 77, 3) := by decide +kernel
theorem dX7_sewn_49 : decode cX7_sewn 49 = .ok (.iload_n 1, 1) := by decide +kernel
theorem dX7_sewn_50 : decode cX7_sewn 50 = .ok (.iaload, 1) := by decide +kernel
theorem dX7_sewn_51 : decode cX7_sewn 51 = .ok (.goto 37, 3) := by decide +kernel
theorem dX7_sewn_54 : decode cX7_sewn 54 = .ok (.iload_n 2, 1) := by decide +kernel
theorem dX7_sewn_55 : decode cX7_sewn 55 = .ok (.iconst 1, 1) := by decide +kernel
theorem dX7_sewn_56 : decode cX7_sewn 56 = .ok (.if_icmp .ne 12, 3) := by decide +kernel
theorem dX7_sewn_59 : decode cX7_sewn 59 = .ok (.aload_n 0, 1) := by decide +kernel
theorem dX7_sewn_60 : decode cX7_sewn 60 = .ok (.getfield 80, 3) := by decide +kernel
theorem dX7_sewn_63 : decode cX7_sewn 63 = .ok (.iload_n 1, 1) := by decide +kernel
theorem dX7_sewn_64 : decode cX7_sewn 64 = .ok (.iaload, 1) := by decide +kernel
theorem dX7_sewn_65 : decode cX7_sewn 65 = .ok (.goto 23, 3) := by decide +kernel
theorem dX7_sewn_68 : decode cX7_sewn 68 = .ok (.iload_n 2, 1) := by decide +kernel
theorem dX7_sewn_69 : decode cX7_sewn 69 = .ok (.iconst 2, 1) := by decide +kernel
theorem dX7_sewn_70 : decode cX7_sewn 70 = .ok (.if_icmp .ne 12, 3) := by decide +kernel
theorem dX7_sewn_73 : decode cX7_sewn 73 = .ok (.aload_n 0, 1) := by decide +kernel
theorem dX7_sewn_74 : decode cX7_sewn 74 = .ok (.getfield 83, 3) := by decide +kernel
theorem dX7_sewn_77 : decode cX7_sewn 77 = .ok (.iload_n 1, 1) := by decide +kernel
theorem dX7_sewn_78 : decode cX7_sewn 78 = .ok (.iaload, 1) := by decide +kernel
theorem dX7_sewn_79 : decode cX7_sewn 79 = .ok (.goto 9, 3) := by decide +kernel
theorem dX7_sewn_82 : decode cX7_sewn 82 = .ok (.aload_n 0, 1) := by decide +kernel
theorem dX7_sewn_83 : decode cX7_sewn 83 = .ok (.getfield 86, 3) := by decide +kernel
theorem dX7_sewn_86 : decode cX7_sewn 86 = .ok (.iload_n 1, 1) := by decide +kernel
theorem dX7_sewn_87 : decode cX7_sewn 87 = .ok (.iaload, 1) := by decide +kernel
theorem dX7_sewn_88 : decode cX7_sewn 88 = .ok (.ireturn, 1) := by decide +kernel
theorem dX7_count_0 : decode cX7_count 0 = .ok (.aload_n 0, 1) := by decide +kernel
theorem dX7_count_1 : decode cX7_count 1 = .ok (.iconst 0, 1) := by decide +kernel
theorem dX7_count_2 : decode cX7_count 2 = .ok (.putfield 95, 3) := by decide +kernel
theorem dX7_count_5 : decode cX7_count 5 = .ok (.aload_n 0, 1) := by decide +kernel
theorem dX7_count_6 : decode cX7_count 6 = .ok (.iload_n 1, 1) := by decide +kernel
theorem dX7_count_7 : decode cX7_count 7 = .ok (.ifCond .lt 12, 3) := by decide +kernel
theorem dX7_count_10 : decode cX7_count 10 = .ok (.iload_n 1, 1) := by decide +kernel
theorem dX7_count_11 : decode cX7_count 11 = .ok (.iconst 4, 1) := by decide +kernel
theorem dX7_count_12 : decode cX7_count 12 = .ok (.if_icmp .gt 7, 3) := by decide +kernel
theorem dX7_count_15 : decode cX7_count 15 = .ok (.iconst 1, 1) := by decide +kernel
theorem dX7_count_16 : decode cX7_count 16 = .ok (.goto 4, 3) := by decide +kernel
theorem dX7_count_19 : decode cX7_count 19 = .ok (.iconst 0, 1) := by decide +kernel
theorem dX7_count_20 : decode cX7_count 20 = .ok (.iconst 1, 1) := by decide +kernel
theorem dX7_count_21 : decode cX7_count 21 = .ok (.invokevirtual 157, 3) := by decide +kernel
theorem dX7_count_24 : decode cX7_count 24 = .ok (.ifCond .ne 5, 3) := by decide +kernel
theorem dX7_count_27 : decode cX7_count 27 = .ok (.iconst 0, 1) := by decide +kernel
theorem dX7_count_28 : decode cX7_count 28 = .ok (.ireturn, 1) := by decide +kernel
theorem dX7_count_29 : decode cX7_count 29 = .ok (.iload_n 1, 1) := by decide +kernel
theorem dX7_count_30 : decode cX7_count 30 = .ok (.tableswitch 50 0 3 #[30, 35, 40, 45], 30) := by decide +kernel
theorem dX7_count_60 : decode cX7_count 60 = .ok (.aload_n 0, 1) := by decide +kernel
theorem dX7_count_61 : decode cX7_count 61 = .ok (.getfield 237, 3) := by decide +kernel
theorem dX7_count_64 : decode cX7_count 64 = .ok (.ireturn, 1) := by decide +kernel
theorem dX7_count_65 : decode cX7_count 65 = .ok (.aload_n 0, 1) := by decide +kernel
theorem dX7_count_66 : decode cX7_count 66 = .ok (.getfield 240, 3) := by decide +kernel
theorem dX7_count_69 : decode cX7_count 69 = .ok (.ireturn, 1) := by decide +kernel
theorem dX7_count_70 : decode cX7_count 70 = .ok (.aload_n 0, 1) := by decide +kernel
theorem dX7_count_71 : decode cX7_count 71 = .ok (.getfield 243, 3) := by decide +kernel
theorem dX7_count_74 : decode cX7_count 74 = .ok (.ireturn, 1) := by decide +kernel
theorem dX7_count_75 : decode cX7_count 75 = .ok (.aload_n 0, 1) := by decide +kernel
theorem dX7_count_76 : decode cX7_count 76 = .ok (.getfield 98, 3) := by decide +kernel
theorem dX7_count_79 : decode cX7_count 79 = .ok (.ireturn, 1) := by decide +kernel
theorem dX7_count_80 : decode cX7_count 80 = .ok (.iconst 0, 1) := by decide +kernel
theorem dX7_count_81 : decode cX7_count 81 = .ok (.istore_n 2, 1) := by decide +kernel
theorem dX7_count_82 : decode cX7_count 82 = .ok (.iconst 0, 1) := by decide +kernel
theorem dX7_count_83 : decode cX7_count 83 = .ok (.istore_n 3, 1) := by decide +kernel
theorem dX7_count_84 : decode cX7_count 84 = .ok (.iload_n 3, 1) := by decide +kernel
theorem dX7_count_85 : decode cX7_count 85 = .ok (.aload_n 0, 1) := by decide +kernel
theorem dX7_count_86 : decode cX7_count 86 = .ok (.getfield 237, 3) := by decide +kernel
theorem dX7_count_89 : decode cX7_count 89 = .ok (.if_icmp .ge 18, 3) := by decide +kernel
theorem dX7_count_92 : decode cX7_count 92 = .ok (.iload_n 2, 1) := by decide +kernel
theorem dX7_count_93 : decode cX7_count 93 = .ok (.aload_n 0, 1) := by decide +kernel
theorem dX7_count_94 : decode cX7_count 94 = .ok (.getfield 59, 3) := by decide +kernel
theorem dX7_count_97 : decode cX7_count 97 = .ok (.iload_n 3, 1) := by decide +kernel
theorem dX7_count_98 : decode cX7_count 98 = .ok (.iaload, 1) := by decide +kernel
theorem dX7_count_99 : decode cX7_count 99 = .ok (.iadd, 1) := by decide +kernel
theorem dX7_count_100 : decode cX7_count 100 = .ok (.istore_n 2, 1) := by decide +kernel
theorem dX7_count_101 : decode cX7_count 101 = .ok (.iinc 3 1, 3) := by decide +kernel
theorem dX7_count_104 : decode cX7_count 104 = .ok (.goto (-20), 3) := by decide +kernel
theorem dX7_count_107 : decode cX7_count 107 = .ok (.iload_n 2, 1) := by decide +kernel
theorem dX7_count_108 : decode cX7_count 108 = .ok (.ireturn, 1) := by decide +kernel
