theorem dX12_init_0 : decode cX12_init 0 = .ok (.aload_n 0, 1) := by decide +kernel
theorem dX12_init_1 : decode cX12_init 1 = .ok (.invokespecial 1, 3) := by decide +kernel
theorem dX12_init_4 : decode cX12_init 4 = .ok (.aload_n 0, 1) := by decide +kernel
theorem dX12_init_5 : decode cX12_init 5 = .ok (.sipush 3000, 3) := by decide +kernel
theorem dX12_init_8 : decode cX12_init 8 = .ok (.newarray .int, 2) := by decide +kernel
theorem dX12_init_10 : decode cX12_init 10 = .ok (.putfield 7, 3) := by decide +kernel
theorem dX12_init_13 : decode cX12_init 13 = .ok (.aload_n 0, 1) := by decide +kernel
theorem dX12_init_14 : decode cX12_init 14 = .ok (.sipush 3000, 3) := by decide +kernel
theorem dX12_init_17 : decode cX12_init 17 = .ok (.newarray .int, 2) := by decide +kernel
theorem dX12_init_19 : decode cX12_init 19 = .ok (.putfield 13, 3) := by decide +kernel
theorem dX12_init_22 : decode cX12_init 22 = .ok (.aload_n 0, 1) := by decide +kernel
theorem dX12_init_23 : decode cX12_init 23 = .ok (.sipush 3000, 3) := by decide +kernel
theorem dX12_init_26 : decode cX12_init 26 = .ok (.newarray .int, 2) := by decide +kernel
theorem dX12_init_28 : decode cX12_init 28 = .ok (.putfield 16, 3) := by decide +kernel
theorem dX12_init_31 : decode cX12_init 31 = .ok (.aload_n 0, 1) := by decide +kernel
theorem dX12_init_32 : decode cX12_init 32 = .ok (.sipush 3000, 3) := by decide +kernel
theorem dX12_init_35 : decode cX12_init 35 = .ok (.newarray .int, 2) := by decide +kernel
theorem dX12_init_37 : decode cX12_init 37 = .ok (.putfield 19, 3) := by decide +kernel
theorem dX12_init_40 : decode cX12_init 40 = .ok (.aload_n 0, 1) := by decide +kernel
theorem dX12_init_41 : decode cX12_init 41 = .ok (.sipush 3000, 3) := by decide +kernel
theorem dX12_init_44 : decode cX12_init 44 = .ok (.newarray .int, 2) := by decide +kernel
theorem dX12_init_46 : decode cX12_init 46 = .ok (.putfield 22, 3) := by decide +kernel
theorem dX12_init_49 : decode cX12_init 49 = .ok (.aload_n 0, 1) := by decide +kernel
theorem dX12_init_50 : decode cX12_init 50 = .ok (.sipush 3000, 3) := by decide +kernel
theorem dX12_init_53 : decode cX12_init 53 = .ok (.newarray .boolean, 2) := by decide +kernel
theorem dX12_init_55 : decode cX12_init 55 = .ok (.putfield 25, 3) := by decide +kernel
theorem dX12_init_58 : decode cX12_init 58 = .ok (.aload_n 0, 1) := by decide +kernel
theorem dX12_init_59 : decode cX12_init 59 = .ok (.sipush 3000, 3) := by decide +kernel
theorem dX12_init_62 : decode cX12_init 62 = .ok (.newarray .int, 2) := by decide +kernel
theorem dX12_init_64 : decode cX12_init 64 = .ok (.putfield 29, 3) := by decide +kernel
theorem dX12_init_67 : decode cX12_init 67 = .ok (.aload_n 0, 1) := by decide +kernel
theorem dX12_init_68 : decode cX12_init 68 = .ok (.sipush 3000, 3) := by decide +kernel
theorem dX12_init_71 : decode cX12_init 71 = .ok (.newarray .int, 2) := by decide +kernel
theorem dX12_init_73 : decode cX12_init 73 = .ok (.putfield 32, 3) := by decide +kernel
theorem dX12_init_76 : decode cX12_init 76 = .ok (.aload_n 0, 1) := by decide +kernel
theorem dX12_init_77 : decode cX12_init 77 = .ok (.sipush 3000, 3) := by decide +kernel
theorem dX12_init_80 : decode cX12_init 80 = .ok (.newarray .int, 2) := by decide +kernel
theorem dX12_init_82 : decode cX12_init 82 = .ok (.putfield 35, 3) := by decide +kernel
theorem dX12_init_85 : decode cX12_init 85 = .ok (.aload_n 0, 1) := by decide +kernel
theorem dX12_init_86 : decode cX12_init 86 = .ok (.sipush 3000, 3) := by decide +kernel
theorem dX12_init_89 : decode cX12_init 89 = .ok (.newarray .int, 2) := by decide +kernel
theorem dX12_init_91 : decode cX12_init 91 = .ok (.putfield 38, 3) := by decide +kernel
theorem dX12_init_94 : decode cX12_init 94 = .ok (.aload_n 0, 1) := by decide +kernel
theorem dX12_init_95 : decode cX12_init 95 = .ok (.sipush 3000, 3) := by decide +kernel
theorem dX12_init_98 : decode cX12_init 98 = .ok (.newarray .int, 2) := by decide +kernel
theorem dX12_init_100 : decode cX12_init 100 = .ok (.putfield 41, 3) := by decide +kernel
theorem dX12_init_103 : decode cX12_init 103 = .ok (.aload_n 0, 1) := by decide +kernel
theorem dX12_init_104 : decode cX12_init 104 = .ok (.sipush 12000, 3) := by decide +kernel
theorem dX12_init_107 : decode cX12_init 107 = .ok (.newarray .int, 2) := by decide +kernel
theorem dX12_init_109 : decode cX12_init 109 = .ok (.putfield 44, 3) := by decide +kernel
theorem dX12_init_112 : decode cX12_init 112 = .ok (.aload_n 0, 1) := by decide +kernel
theorem dX12_init_113 : decode cX12_init 113 = .ok (.sipush 12000, 3) := by decide +kernel
theorem dX12_init_116 : decode cX12_init 116 = .ok (.newarray .boolean, 2) := by decide +kernel
theorem dX12_init_118 : decode cX12_init 118 = .ok (.putfield 47, 3) := by decide +kernel
theorem dX12_init_121 : decode cX12_init 121 = .ok (.aload_n 0, 1) := by decide +kernel
theorem dX12_init_122 : decode cX12_init 122 = .ok (.sipush 12000, 3) := by decide +kernel
theorem dX12_init_125 : decode cX12_init 125 = .ok (.newarray .int, 2) := by decide +kernel
theorem dX12_init_127 : decode cX12_init 127 = .ok (.putfield 50, 3) := by decide +kernel
theorem dX12_init_130 : decode cX12_init 130 = .ok (.aload_n 0, 1) := by decide +kernel
theorem dX12_init_131 : decode cX12_init 131 = .ok (.sipush 12000, 3) := by decide +kernel
theorem dX12_init_134 : decode cX12_init 134 = .ok (.newarray .int, 2) := by decide +kernel
theorem dX12_init_136 : decode cX12_init 136 = .ok (.putfield 53, 3) := by decide +kernel
theorem dX12_init_139 : decode cX12_init 139 = .ok (.aload_n 0, 1) := by decide +kernel
theorem dX12_init_140 : decode cX12_init 140 = .ok (.sipush 12000, 3) := by decide +kernel
theorem dX12_init_143 : decode cX12_init 143 = .ok (.newarray .int, 2) := by decide +kernel
theorem dX12_init_145 : decode cX12_init 145 = .ok (.putfield 56, 3) := by decide +kernel
theorem dX12_init_148 : decode cX12_init 148 = .ok (.aload_n 0, 1) := by decide +kernel
theorem dX12_init_149 : decode cX12_init 149 = .ok (.sipush 12000, 3) := by decide +kernel
theorem dX12_init_152 : decode cX12_init 152 = .ok (.newarray .int, 2) := by decide +kernel
theorem dX12_init_154 : decode cX12_init 154 = .ok (.putfield 59, 3) := by decide +kernel
theorem dX12_init_157 : decode cX12_init 157 = .ok (.aload_n 0, 1) := by decide +kernel
theorem dX12_init_158 : decode cX12_init 158 = .ok (.sipush 12000, 3) := by decide +kernel
theorem dX12_init_161 : decode cX12_init 161 = .ok (.newarray .int, 2) := by decide +kernel
theorem dX12_init_163 : decode cX12_init 163 = .ok (.putfield 62, 3) := by decide +kernel
theorem dX12_init_166 : decode cX12_init 166 = .ok (.aload_n 0, 1) := by decide +kernel
theorem dX12_init_167 : decode cX12_init 167 = .ok (.sipush 12000, 3) := by decide +kernel
theorem dX12_init_170 : decode cX12_init 170 = .ok (.newarray .int, 2) := by decide +kernel
theorem dX12_init_172 : decode cX12_init 172 = .ok (.putfield 65, 3) := by decide +kernel
theorem dX12_init_175 : decode cX12_init 175 = .ok (.aload_n 0, 1) := by decide +kernel
theorem dX12_init_176 : decode cX12_init 176 = .ok (.sipush 24000, 3) := by decide +kernel
theorem dX12_init_179 : decode cX12_init 179 = .ok (.newarray .int, 2) := by decide +kernel
theorem dX12_init_181 : decode cX12_init 181 = .ok (.putfield 68, 3) := by decide +kernel
theorem dX12_init_184 : decode cX12_init 184 = .ok (.aload_n 0, 1) := by decide +kernel
theorem dX12_init_185 : decode cX12_init 185 = .ok (.sipush 24000, 3) := by decide +kernel
theorem dX12_init_188 : decode cX12_init 188 = .ok (.newarray .int, 2) := by decide +kernel
theorem dX12_init_190 : decode cX12_init 190 = .ok (.putfield 71, 3) := by decide +kernel
theorem dX12_init_193 : decode cX12_init 193 = .ok (.aload_n 0, 1) := by decide +kernel
theorem dX12_init_194 : decode cX12_init 194 = .ok (.sipush 24000, 3) := by decide +kernel
theorem dX12_init_197 : decode cX12_init 197 = .ok (.newarray .int, 2) := by decide +kernel
theorem dX12_init_199 : decode cX12_init 199 = .ok (.putfield 74, 3) := by decide +kernel
theorem dX12_init_202 : decode cX12_init 202 = .ok (.aload_n 0, 1) := by decide +kernel
theorem dX12_init_203 : decode cX12_init 203 = .ok (.sipush 24000, 3) := by decide +kernel
theorem dX12_init_206 : decode cX12_init 206 = .ok (.newarray .int, 2) := by decide +kernel
theorem dX12_init_208 : decode cX12_init 208 = .ok (.putfield 77, 3) := by decide +kernel
theorem dX12_init_211 : decode cX12_init 211 = .ok (.aload_n 0, 1) := by decide +kernel
theorem dX12_init_212 : decode cX12_init 212 = .ok (.sipush 24000, 3) := by decide +kernel
theorem dX12_init_215 : decode cX12_init 215 = .ok (.newarray .boolean, 2) := by decide +kernel
theorem dX12_init_217 : decode cX12_init 217 = .ok (.putfield 80, 3) := by decide +kernel
theorem dX12_init_220 : decode cX12_init 220 = .ok (.aload_n 0, 1) := by decide +kernel
theorem dX12_init_221 : decode cX12_init 221 = .ok (.sipush 24000, 3) := by decide +kernel
theorem dX12_init_224 : decode cX12_init 224 = .ok (.newarray .boolean, 2) := by decide +kernel
theorem dX12_init_226 : decode cX12_init 226 = .ok (.putfield 83, 3) := by decide +kernel
theorem dX12_init_229 : decode cX12_init 229 = .ok (.aload_n 0, 1) := by decide +kernel
theorem dX12_init_230 : decode cX12_init 230 = .ok (.sipush 1000, 3) := by decide +kernel
theorem dX12_init_233 : decode cX12_init 233 = .ok (.newarray .int, 2) := by decide +kernel
theorem dX12_init_235 : decode cX12_init 235 = .ok (.putfield 86, 3) := by decide +kernel
theorem dX12_init_238 : decode cX12_init 238 = .ok (.aload_n 0, 1) := by decide +kernel
theorem dX12_init_239 : decode cX12_init 239 = .ok (.sipush 1000, 3) := by decide +kernel
theorem dX12_init_242 : decode cX12_init 242 = .ok (.newarray .int, 2) := by decide +kernel
theorem dX12_init_244 : decode cX12_init 244 = .ok (.putfield 89, 3) := by decide +kernel
theorem dX12_init_247 : decode cX12_init 247 = .ok (.aload_n 0, 1) := by decide +kernel
theorem dX12_init_248 : decode cX12_init 248 = .ok (.sipush 4200, 3) := by decide +kernel
theorem dX12_init_251 : decode cX12_init 251 = .ok (.newarray .int, 2) := by decide +kernel
theorem dX12_init_253 : decode cX12_init 253 = .ok (.putfield 92, 3) := by decide +kernel
theorem dX12_init_256 : decode cX12_init 256 = .ok (.aload_n 0, 1) := by decide +kernel
theorem dX12_init_257 : decode cX12_init 257 = .ok (.sipush 4200, 3) := by decide +kernel
theorem dX12_init_260 : decode cX12_init 260 = .ok (.newarray .int, 2) := by decide +kernel
theorem dX12_init_262 : decode cX12_init 262 = .ok (.putfield 95, 3) := by decide +kernel
theorem dX12_init_265 : decode cX12_init 265 = .ok (.aload_n 0, 1) := by decide +kernel
theorem dX12_init_266 : decode cX12_init 266 = .ok (.sipush 200, 3) := by decide +kernel
theorem dX12_init_269 : decode cX12_init 269 = .ok (.newarray .int, 2) := by decide +kernel
theorem dX12_init_271 : decode cX12_init 271 = .ok (.putfield 98, 3) := by decide +kernel
theorem dX12_init_274 : decode cX12_init 274 = .ok (.aload_n 0, 1) := by decide +kernel
theorem dX12_init_275 : decode cX12_init 275 = .ok (.sipush 20000, 3) := by decide +kernel
theorem dX12_init_278 : decode cX12_init 278 = .ok (.newarray .int, 2) := by decide +kernel
theorem dX12_init_280 : decode cX12_init 280 = .ok (.putfield 101, 3) := by decide +kernel
theorem dX12_init_283 : decode cX12_init 283 = .ok (.aload_n 0, 1) := by decide +kernel
theorem dX12_init_284 : decode cX12_init 284 = .ok (.sipush 20000, 3) := by decide +kernel
theorem dX12_init_287 : decode cX12_init 287 = .ok (.newarray .int, 2) := by decide +kernel
theorem dX12_init_289 : decode cX12_init 289 = .ok (.putfield 104, 3) := by decide +kernel
theorem dX12_init_292 : decode cX12_init 292 = .ok (.aload_n 0, 1) := by decide +kernel
theorem dX12_init_293 : decode cX12_init 293 = .ok (.sipush 20000, 3) := by decide +kernel
theorem dX12_init_296 : decode cX12_init 296 = .ok (.newarray .boolean, 2) := by decide +kernel
theorem dX12_init_298 : decode cX12_init 298 = .ok (.putfield 107, 3) := by decide +kernel
theorem dX12_init_301 : decode cX12_init 301 = .ok (.aload_n 0, 1) := by decide +kernel
theorem dX12_init_302 : decode cX12_init 302 = .ok (.sipush 3000, 3) := by decide +kernel
theorem dX12_init_305 : decode cX12_init 305 = .ok (.newarray .int, 2) := by decide +kernel
theorem dX12_init_307 : decode cX12_init 307 = .ok (.putfield 110, 3) := by decide +kernel
theorem dX12_init_310 : decode cX12_init 310 = .ok (.aload_n 0, 1) := by decide +kernel
theorem dX12_init_311 : decode cX12_init 311 = .ok (.sipush 3000, 3) := by decide +kernel
theorem dX12_init_314 : decode cX12_init 314 = .ok (.newarray .int, 2) := by decide +kernel
theorem dX12_init_316 : decode cX12_init 316 = .ok (.putfield 113, 3) := by decide +kernel
theorem dX12_init_319 : decode cX12_init 319 = .ok (.aload_n 0, 1) := by decide +kernel
theorem dX12_init_320 : decode cX12_init 320 = .ok (.sipush 3000, 3) := by decide +kernel
theorem dX12_init_323 : decode cX12_init 323 = .ok (.newarray .int, 2) := by decide +kernel
theorem dX12_init_325 : decode cX12_init 325 = .ok (.putfield 116, 3) := by decide +kernel
theorem dX12_init_328 : decode cX12_init 328 = .ok (.aload_n 0, 1) := by decide +kernel
theorem dX12_init_329 : decode cX12_init 329 = .ok (.sipush 3000, 3) := by decide +kernel
theorem dX12_init_332 : decode cX12_init 332 = .ok (.newarray .int, 2) := by decide +kernel
theorem dX12_init_334 : decode cX12_init 334 = .ok (.putfield 119, 3) := by decide +kernel
theorem dX12_init_337 : decode cX12_init 337 = .ok (.aload_n 0, 1) := by decide +kernel
theorem dX12_init_338 : decode cX12_init 338 = .ok (.sipush 3000, 3) := by decide +kernel
theorem dX12_init_341 : decode cX12_init 341 = .ok (.newarray .int, 2) := by decide +kernel
theorem dX12_init_343 : decode cX12_init 343 = .ok (.putfield 122, 3) := by decide +kernel
theorem dX12_init_346 : decode cX12_init 346 = .ok (.aload_n 0, 1) := by decide +kernel
theorem dX12_init_347 : decode cX12_init 347 = .ok (.sipush 3000, 3) := by decide +kernel
theorem dX12_init_350 : decode cX12_init 350 = .ok (.newarray .int, 2) := by decide +kernel
theorem dX12_init_352 : decode cX12_init 352 = .ok (.putfield 125, 3) := by decide +kernel
theorem dX12_init_355 : decode cX12_init 355 = .ok (.aload_n 0, 1) := by decide +kernel
theorem dX12_init_356 : decode cX12_init 356 = .ok (.sipush 3000, 3) := by decide +kernel
theorem dX12_init_359 : decode cX12_init 359 = .ok (.newarray .int, 2) := by decide +kernel
theorem dX12_init_361 : decode cX12_init 361 = .ok (.putfield 128, 3) := by decide +kernel
theorem dX12_init_364 : decode cX12_init 364 = .ok (.return_, 1) := by decide +kernel
theorem dX12_thrown_0 : decode cX12_thrown 0 = .ok (.aload_n 0, 1) := by decide +kernel
theorem dX12_thrown_1 : decode cX12_thrown 1 = .ok (.getfield 131, 3) := by decide +kernel
theorem dX12_thrown_4 : decode cX12_thrown 4 = .ok (.ireturn, 1) := by decide +kernel
theorem dX12_fails_0 : decode cX12_fails 0 = .ok (.aload_n 0, 1) := by decide +kernel
theorem dX12_fails_1 : decode cX12_fails 1 = .ok (.iload_n 1, 1) := by decide +kernel
theorem dX12_fails_2 : decode cX12_fails 2 = .ok (.putfield 131, 3) := by decide +kernel
theorem dX12_fails_5 : decode cX12_fails 5 = .ok (.iconst 0, 1) := by decide +kernel
theorem dX12_fails_6 : decode cX12_fails 6 = .ok (.ireturn, 1) := by decide +kernel
theorem dX12_valueOf_0 : decode cX12_valueOf 0 = .ok (.bipush (-2), 2) := by decide +kernel
theorem dX12_valueOf_2 : decode cX12_valueOf 2 = .ok (.iload_n 0, 1) := by decide +kernel
theorem dX12_valueOf_3 : decode cX12_valueOf 3 = .ok (.isub, 1) := by decide +kernel
theorem dX12_valueOf_4 : decode cX12_valueOf 4 = .ok (.ireturn, 1) := by decide +kernel
theorem dX12_isObject_0 : decode cX12_isObject 0 = .ok (.iload_n 1, 1) := by decide +kernel
theorem dX12_isObject_1 : decode cX12_isObject 1 = .ok (.bipush (-2), 2) := by decide +kernel
theorem dX12_isObject_3 : decode cX12_isObject 3 = .ok (.if_icmp .gt 25, 3) := by decide +kernel
theorem dX12_isObject_6 : decode cX12_isObject 6 = .ok (.bipush (-2), 2) := by decide +kernel
theorem dX12_isObject_8 : decode cX12_isObject 8 = .ok (.iload_n 1, 1) := by decide +kernel
theorem dX12_isObject_9 : decode cX12_isObject 9 = .ok (.isub, 1) := by decide +kernel
theorem dX12_isObject_10 : decode cX12_isObject 10 = .ok (.aload_n 0, 1) := by decide +kernel
theorem dX12_isObject_11 : decode cX12_isObject 11 = .ok (.getfield 135, 3) := by decide +kernel
theorem dX12_isObject_14 : decode cX12_isObject 14 = .ok (.if_icmp .ge 14, 3) := by decide +kernel
theorem dX12_isObject_17 : decode cX12_isObject 17 = .ok (.bipush (-2), 2) := by decide +kernel
theorem dX12_isObject_19 : decode cX12_isObject 19 = .ok (.iload_n 1, 1) := by decide +kernel
theorem dX12_isObject_20 : decode cX12_isObject 20 = .ok (.isub, 1) := by decide +kernel
theorem dX12_isObject_21 : decode cX12_isObject 21 = .ok (.ifCond .lt 7, 3) := by decide +kernel
theorem dX12_isObject_24 : decode cX12_isObject 24 = .ok (.iconst 1, 1) := by decide +kernel
theorem dX12_isObject_25 : decode cX12_isObject 25 = .ok (.goto 4, 3) := by decide +kernel
theorem dX12_isObject_28 : decode cX12_isObject 28 = .ok (.iconst 0, 1) := by decide +kernel
theorem dX12_isObject_29 : decode cX12_isObject 29 = .ok (.ireturn, 1) := by decide +kernel
theorem dX12_isValue_0 : decode cX12_isValue 0 = .ok (.iload_n 1, 1) := by decide +kernel
theorem dX12_isValue_1 : decode cX12_isValue 1 = .ok (.iconst (-1), 1) := by decide +kernel
theorem dX12_isValue_2 : decode cX12_isValue 2 = .ok (.if_icmp .lt 10, 3) := by decide +kernel
theorem dX12_isValue_5 : decode cX12_isValue 5 = .ok (.iload_n 1, 1) := by decide +kernel
theorem dX12_isValue_6 : decode cX12_isValue 6 = .ok (.sipush 1000, 3) := by decide +kernel
theorem dX12_isValue_9 : decode cX12_isValue 9 = .ok (.if_icmp .lt 11, 3) := by decide +kernel
theorem dX12_isValue_12 : decode cX12_isValue 12 = .ok (.aload_n 0, 1) := by decide +kernel
theorem dX12_isValue_13 : decode cX12_isValue 13 = .ok (.iload_n 1, 1) := by decide +kernel
theorem dX12_isValue_14 : decode cX12_isValue 14 = .ok (.invokevirtual 138, 3) := by decide +kernel
theorem dX12_isValue_17 : decode cX12_isValue 17 = .ok (.ifCond .eq 7, 3) := by decide +kernel
theorem dX12_isValue_20 : decode cX12_isValue 20 = .ok (.iconst 1, 1) := by decide +kernel
theorem dX12_isValue_21 : decode cX12_isValue 21 = .ok (.goto 4, 3) := by decide +kernel
theorem dX12_isValue_24 : decode cX12_isValue 24 = .ok (.iconst 0, 1) := by decide +kernel
theorem dX12_isValue_25 : decode cX12_isValue 25 = .ok (.ireturn, 1) := by decide +kernel
theorem dX12_isKind_0 : decode cX12_isKind 0 = .ok (.aload_n 0, 1) := by decide +kernel
theorem dX12_isKind_1 : decode cX12_isKind 1 = .ok (.iload_n 1, 1) := by decide +kernel
theorem dX12_isKind_2 : decode cX12_isKind 2 = .ok (.invokevirtual 138, 3) := by decide +kernel
theorem dX12_isKind_5 : decode cX12_isKind 5 = .ok (.ifCond .eq 20, 3) := by decide +kernel
theorem dX12_isKind_8 : decode cX12_isKind 8 = .ok (.aload_n 0, 1) := by decide +kernel
theorem dX12_isKind_9 : decode cX12_isKind 9 = .ok (.getfield 7, 3) := by decide +kernel
theorem dX12_isKind_12 : decode cX12_isKind 12 = .ok (.bipush (-2), 2) := by decide +kernel
theorem dX12_isKind_14 : decode cX12_isKind 14 = .ok (.iload_n 1, 1) := by decide +kernel
theorem dX12_isKind_15 : decode cX12_isKind 15 = .ok (.isub, 1) := by decide +kernel
theorem dX12_isKind_16 : decode cX12_isKind 16 = .ok (.iaload, 1) := by decide +kernel
theorem dX12_isKind_17 : decode cX12_isKind 17 = .ok (.iload_n 2, 1) := by decide +kernel
theorem dX12_isKind_18 : decode cX12_isKind 18 = .ok (.if_icmp .ne 7, 3) := by decide +kernel
theorem dX12_isKind_21 : decode cX12_isKind 21 = .ok (.iconst 1, 1) := by decide +kernel
theorem dX12_isKind_22 : decode cX12_isKind 22 = .ok (.goto 4, 3) := by decide +kernel
theorem dX12_isKind_25 : decode cX12_isKind 25 = .ok (.iconst 0, 1) := by decide +kernel
theorem dX12_isKind_26 : decode cX12_isKind 26 = .ok (.ireturn, 1) := by decide +kernel
theorem dX12_isHandler_0 : decode cX12_isHandler 0 = .ok (.iload_n 1, 1) := by decide +kernel
theorem dX12_isHandler_1 : decode cX12_isHandler 1 = .ok (.ifCond .lt 15, 3) := by decide +kernel
theorem dX12_isHandler_4 : decode cX12_isHandler 4 = .ok (.iload_n 1, 1) := by decide +kernel
theorem dX12_isHandler_5 : decode cX12_isHandler 5 = .ok (.aload_n 0, 1) := by decide +kernel
theorem dX12_isHandler_6 : decode cX12_isHandler 6 = .ok (.getfield 142, 3) := by decide +kernel
theorem dX12_isHandler_9 : decode cX12_isHandler 9 = .ok (.if_icmp .ge 7, 3) := by decide +kernel
theorem dX12_isHandler_12 : decode cX12_isHandler 12 = .ok (.iconst 1, 1) := by decide +kernel
theorem dX12_isHandler_13 : decode cX12_isHandler 13 = .ok (.goto 4, 3) := by decide +kernel
theorem dX12_isHandler_16 : decode cX12_isHandler 16 = .ok (.iconst 0, 1) := by decide +kernel
theorem dX12_isHandler_17 : decode cX12_isHandler 17 = .ok (.ireturn, 1) := by decide +kernel
theorem dX12_isFull_0 : decode cX12_isFull 0 = .ok (.sipush 3000, 3) := by decide +kernel
theorem dX12_isFull_3 : decode cX12_isFull 3 = .ok (.aload_n 0, 1) := by decide +kernel
theorem dX12_isFull_4 : decode cX12_isFull 4 = .ok (.getfield 135, 3) := by decide +kernel
theorem dX12_isFull_7 : decode cX12_isFull 7 = .ok (.isub, 1) := by decide +kernel
theorem dX12_isFull_8 : decode cX12_isFull 8 = .ok (.iload_n 1, 1) := by decide +kernel
theorem dX12_isFull_9 : decode cX12_isFull 9 = .ok (.if_icmp .ge 7, 3) := by decide +kernel
theorem dX12_isFull_12 : decode cX12_isFull 12 = .ok (.iconst 1, 1) := by decide +kernel
theorem dX12_isFull_13 : decode cX12_isFull 13 = .ok (.goto 4, 3) := by decide +kernel
theorem dX12_isFull_16 : decode cX12_isFull 16 = .ok (.iconst 0, 1) := by decide +kernel
theorem dX12_isFull_17 : decode cX12_isFull 17 = .ok (.ireturn, 1) := by decide +kernel
theorem dX12_newObject_0 : decode cX12_newObject 0 = .ok (.aload_n 0, 1) := by decide +kernel
theorem dX12_newObject_1 : decode cX12_newObject 1 = .ok (.getfield 135, 3) := by decide +kernel
theorem dX12_newObject_4 : decode cX12_newObject 4 = .ok (.istore_n 2, 1) := by decide +kernel
theorem dX12_newObject_5 : decode cX12_newObject 5 = .ok (.aload_n 0, 1) := by decide +kernel
theorem dX12_newObject_6 : decode cX12_newObject 6 = .ok (.dup, 1) := by decide +kernel
theorem dX12_newObject_7 : decode cX12_newObject 7 = .ok (.getfield 135, 3) := by decide +kernel
theorem dX12_newObject_10 : decode cX12_newObject 10 = .ok (.iconst 1, 1) := by decide +kernel
theorem dX12_newObject_11 : decode cX12_newObject 11 = .ok (.iadd, 1) := by decide +kernel
theorem dX12_newObject_12 : decode cX12_newObject 12 = .ok (.putfield 135, 3) := by decide +kernel
theorem dX12_newObject_15 : decode cX12_newObject 15 = .ok (.aload_n 0, 1) := by decide +kernel
theorem dX12_newObject_16 : decode cX12_newObject 16 = .ok (.getfield 7, 3) := by decide +kernel
theorem dX12_newObject_19 : decode cX12_newObject 19 = .ok (.iload_n 2, 1) := by decide +kernel
theorem dX12_newObject_20 : decode cX12_newObject 20 = .ok (.iload_n 1, 1) := by decide +kernel
theorem dX12_newObject_21 : decode cX12_newObject 21 = .ok (.iastore, 1) := by decide +kernel
theorem dX12_newObject_22 : decode cX12_newObject 22 = .ok (.aload_n 0, 1) := by decide +kernel
theorem dX12_newObject_23 : decode cX12_newObject 23 = .ok (.getfield 13, 3) := by decide +kernel
theorem dX12_newObject_26 : decode cX12_newObject 26 = .ok (.iload_n 2, 1) := by decide +kernel
theorem dX12_newObject_27 : decode cX12_newObject 27 = .ok (.iconst 0, 1) := by decide +kernel
theorem dX12_newObject_28 : decode cX12_newObject 28 = .ok (.iastore, 1) := by decide +kernel
theorem dX12_newObject_29 : decode cX12_newObject 29 = .ok (.aload_n 0, 1) := by decide +kernel
theorem dX12_newObject_30 : decode cX12_newObject 30 = .ok (.getfield 16, 3) := by decide +kernel
theorem dX12_newObject_33 : decode cX12_newObject 33 = .ok (.iload_n 2, 1) := by decide +kernel
theorem dX12_newObject_34 : decode cX12_newObject 34 = .ok (.iconst (-1), 1) := by decide +kernel
theorem dX12_newObject_35 : decode cX12_newObject 35 = .ok (.iastore, 1) := by decide +kernel
theorem dX12_newObject_36 : decode cX12_newObject 36 = .ok (.aload_n 0, 1) := by decide +kernel
theorem dX12_newObject_37 : decode cX12_newObject 37 = .ok (.getfield 19, 3) := by decide +kernel
theorem dX12_newObject_40 : decode cX12_newObject 40 = .ok (.iload_n 2, 1) := by decide +kernel
theorem dX12_newObject_41 : decode cX12_newObject 41 = .ok (.iconst (-1), 1) := by decide +kernel
theorem dX12_newObject_42 : decode cX12_newObject 42 = .ok (.iastore, 1) := by decide +kernel
theorem dX12_newObject_43 : decode cX12_newObject 43 = .ok (.aload_n 0, 1) := by decide +kernel
theorem dX12_newObject_44 : decode cX12_newObject 44 = .ok (.getfield 22, 3) := by decide +kernel
theorem dX12_newObject_47 : decode cX12_newObject 47 = .ok (.iload_n 2, 1) := by decide +kernel
theorem dX12_newObject_48 : decode cX12_newObject 48 = .ok (.iconst (-1), 1) := by decide +kernel
theorem dX12_newObject_49 : decode cX12_newObject 49 = .ok (.iastore, 1) := by decide +kernel
theorem dX12_newObject_50 : decode cX12_newObject 50 = .ok (.iload_n 2, 1) := by decide +kernel
theorem dX12_newObject_51 : decode cX12_newObject 51 = .ok (.ireturn, 1) := by decide +kernel
theorem dX12_record_0 : decode cX12_record 0 = .ok (.aload_n 0, 1) := by decide +kernel
theorem dX12_record_1 : decode cX12_record 1 = .ok (.getfield 145, 3) := by decide +kernel
theorem dX12_record_4 : decode cX12_record 4 = .ok (.istore_n 2, 1) := by decide +kernel
theorem dX12_record_5 : decode cX12_record 5 = .ok (.aload_n 0, 1) := by decide +kernel
theorem dX12_record_6 : decode cX12_record 6 = .ok (.dup, 1) := by decide +kernel
theorem dX12_record_7 : decode cX12_record 7 = .ok (.getfield 145, 3) := by decide +kernel
theorem dX12_record_10 : decode cX12_record 10 = .ok (.iconst 1, 1) := by decide +kernel
theorem dX12_record_11 : decode cX12_record 11 = .ok (.iadd, 1) := by decide +kernel
theorem dX12_record_12 : decode cX12_record 12 = .ok (.putfield 145, 3) := by decide +kernel
theorem dX12_record_15 : decode cX12_record 15 = .ok (.aload_n 0, 1) := by decide +kernel
theorem dX12_record_16 : decode cX12_record 16 = .ok (.getfield 44, 3) := by decide +kernel
theorem dX12_record_19 : decode cX12_record 19 = .ok (.iload_n 2, 1) := by decide +kernel
theorem dX12_record_20 : decode cX12_record 20 = .ok (.iload_n 1, 1) := by decide +kernel
theorem dX12_record_21 : decode cX12_record 21 = .ok (.iastore, 1) := by decide +kernel
theorem dX12_record_22 : decode cX12_record 22 = .ok (.aload_n 0, 1) := by decide +kernel
theorem dX12_record_23 : decode cX12_record 23 = .ok (.getfield 47, 3) := by decide +kernel
theorem dX12_record_26 : decode cX12_record 26 = .ok (.iload_n 2, 1) := by decide +kernel
theorem dX12_record_27 : decode cX12_record 27 = .ok (.iconst 0, 1) := by decide +kernel
theorem dX12_record_28 : decode cX12_record 28 = .ok (.bastore, 1) := by decide +kernel
theorem dX12_record_29 : decode cX12_record 29 = .ok (.iload_n 2, 1) := by decide +kernel
theorem dX12_record_30 : decode cX12_record 30 = .ok (.ireturn, 1) := by decide +kernel
theorem dX12_capability_0 : decode cX12_capability 0 = .ok (.aload_n 0, 1) := by decide +kernel
theorem dX12_capability_1 : decode cX12_capability 1 = .ok (.aload_n 0, 1) := by decide +kernel
theorem dX12_capability_2 : decode cX12_capability 2 = .ok (.iconst 0, 1) := by decide +kernel
theorem dX12_capability_3 : decode cX12_capability 3 = .ok (.invokevirtual 148, 3) := by decide +kernel
theorem dX12_capability_6 : decode cX12_capability 6 = .ok (.invokevirtual 152, 3) := by decide +kernel
theorem dX12_capability_9 : decode cX12_capability 9 = .ok (.ireturn, 1) := by decide +kernel
theorem dX12_resolve_0 : decode cX12_resolve 0 = .ok (.aload_n 0, 1) := by decide +kernel
theorem dX12_resolve_1 : decode cX12_resolve 1 = .ok (.getfield 47, 3) := by decide +kernel
theorem dX12_resolve_4 : decode cX12_resolve 4 = .ok (.iload_n 1, 1) := by decide +kernel
theorem dX12_resolve_5 : decode cX12_resolve 5 = .ok (.baload, 1) := by decide +kernel
theorem dX12_resolve_6 : decode cX12_resolve 6 = .ok (.ifCond .eq 4, 3) := by decide +kernel
theorem dX12_resolve_9 : decode cX12_resolve 9 = .ok (.return_, 1) := by decide +kernel
theorem dX12_resolve_10 : decode cX12_resolve 10 = .ok (.aload_n 0, 1) := by decide +kernel
theorem dX12_resolve_11 : decode cX12_resolve 11 = .ok (.getfield 47, 3) := by decide +kernel
theorem dX12_resolve_14 : decode cX12_resolve 14 = .ok (.iload_n 1, 1) := by decide +kernel
theorem dX12_resolve_15 : decode cX12_resolve 15 = .ok (.iconst 1, 1) := by decide +kernel
theorem dX12_resolve_16 : decode cX12_resolve 16 = .ok (.bastore, 1) := by decide +kernel
theorem dX12_resolve_17 : decode cX12_resolve 17 = .ok (.aload_n 0, 1) := by decide +kernel
theorem dX12_resolve_18 : decode cX12_resolve 18 = .ok (.getfield 44, 3) := by decide +kernel
theorem dX12_resolve_21 : decode cX12_resolve 21 = .ok (.iload_n 1, 1) := by decide +kernel
theorem dX12_resolve_22 : decode cX12_resolve 22 = .ok (.iaload, 1) := by decide +kernel
theorem dX12_resolve_23 : decode cX12_resolve 23 = .ok (.istore_n 3, 1) := by decide +kernel
theorem dX12_resolve_24 : decode cX12_resolve 24 = .ok (.iload_n 2, 1) := by decide +kernel
theorem dX12_resolve_25 : decode cX12_resolve 25 = .ok (.iload_n 3, 1) := by decide +kernel
theorem dX12_resolve_26 : decode cX12_resolve 26 = .ok (.invokestatic 155, 3) := by decide +kernel
theorem dX12_resolve_29 : decode cX12_resolve 29 = .ok (.if_icmp .ne 18, 3) := by decide +kernel
theorem dX12_resolve_32 : decode cX12_resolve 32 = .ok (.aload_n 0, 1) := by decide +kernel
theorem dX12_resolve_33 : decode cX12_resolve 33 = .ok (.iload_n 3, 1) := by decide +kernel
theorem dX12_resolve_34 : decode cX12_resolve 34 = .ok (.iconst 2, 1) := by decide +kernel
theorem dX12_resolve_35 : decode cX12_resolve 35 = .ok (.aload_n 0, 1) := by decide +kernel
theorem dX12_resolve_36 : decode cX12_resolve 36 = .ok (.iconst 2, 1) := by decide +kernel
theorem dX12_resolve_37 : decode cX12_resolve 37 = .ok (.invokevirtual 148, 3) := by decide +kernel
theorem dX12_resolve_40 : decode cX12_resolve 40 = .ok (.invokestatic 155, 3) := by decide +kernel
theorem dX12_resolve_43 : decode cX12_resolve 43 = .ok (.invokevirtual 158, 3) := by decide +kernel
theorem dX12_resolve_46 : decode cX12_resolve 46 = .ok (.return_, 1) := by decide +kernel
theorem dX12_resolve_47 : decode cX12_resolve 47 = .ok (.aload_n 0, 1) := by decide +kernel
theorem dX12_resolve_48 : decode cX12_resolve 48 = .ok (.iload_n 2, 1) := by decide +kernel
theorem dX12_resolve_49 : decode cX12_resolve 49 = .ok (.invokevirtual 138, 3) := by decide +kernel
theorem dX12_resolve_52 : decode cX12_resolve 52 = .ok (.ifCond .ne 11, 3) := by decide +kernel
theorem dX12_resolve_55 : decode cX12_resolve 55 = .ok (.aload_n 0, 1) := by decide +kernel
theorem dX12_resolve_56 : decode cX12_resolve 56 = .ok (.iload_n 3, 1) := by decide +kernel
theorem dX12_resolve_57 : decode cX12_resolve 57 = .ok (.iconst 1, 1) := by decide +kernel
theorem dX12_resolve_58 : decode cX12_resolve 58 = .ok (.iload_n 2, 1) := by decide +kernel
theorem dX12_resolve_59 : decode cX12_resolve 59 = .ok (.invokevirtual 158, 3) := by decide +kernel
theorem dX12_resolve_62 : decode cX12_resolve 62 = .ok (.return_, 1) := by decide +kernel
theorem dX12_resolve_63 : decode cX12_resolve 63 = .ok (.bipush (-2), 2) := by decide +kernel
theorem dX12_resolve_65 : decode cX12_resolve 65 = .ok (.iload_n 2, 1) := by decide +kernel
theorem dX12_resolve_66 : decode cX12_resolve 66 = .ok (.isub, 1) := by decide +kernel
theorem dX12_resolve_67 : decode cX12_resolve 67 = .ok (.istore 4, 2) := by decide +kernel
theorem dX12_resolve_69 : decode cX12_resolve 69 = .ok (.aload_n 0, 1) := by decide +kernel
theorem dX12_resolve_70 : decode cX12_resolve 70 = .ok (.getfield 7, 3) := by decide +kernel
theorem dX12_resolve_73 : decode cX12_resolve 73 = .ok (.iload 4, 2) := by decide +kernel
theorem dX12_resolve_75 : decode cX12_resolve 75 = .ok (.iaload, 1) := by decide +kernel
theorem dX12_resolve_76 : decode cX12_resolve 76 = .ok (.iconst 1, 1) := by decide +kernel
theorem dX12_resolve_77 : decode cX12_resolve 77 = .ok (.if_icmp .ne 30, 3) := by decide +kernel
theorem dX12_resolve_80 : decode cX12_resolve 80 = .ok (.aload_n 0, 1) := by decide +kernel
theorem dX12_resolve_81 : decode cX12_resolve 81 = .ok (.getfield 29, 3) := by decide +kernel
theorem dX12_resolve_84 : decode cX12_resolve 84 = .ok (.iload 4, 2) := by decide +kernel
theorem dX12_resolve_86 : decode cX12_resolve 86 = .ok (.iaload, 1) := by decide +kernel
theorem dX12_resolve_87 : decode cX12_resolve 87 = .ok (.iconst 1, 1) := by decide +kernel
theorem dX12_resolve_88 : decode cX12_resolve 88 = .ok (.if_icmp .ne 19, 3) := by decide +kernel
theorem dX12_resolve_91 : decode cX12_resolve 91 = .ok (.aload_n 0, 1) := by decide +kernel
theorem dX12_resolve_92 : decode cX12_resolve 92 = .ok (.iload_n 3, 1) := by decide +kernel
theorem dX12_resolve_93 : decode cX12_resolve 93 = .ok (.iconst 2, 1) := by decide +kernel
theorem dX12_resolve_94 : decode cX12_resolve 94 = .ok (.aload_n 0, 1) := by decide +kernel
theorem dX12_resolve_95 : decode cX12_resolve 95 = .ok (.getfield 35, 3) := by decide +kernel
theorem dX12_resolve_98 : decode cX12_resolve 98 = .ok (.iload 4, 2) := by decide +kernel
theorem dX12_resolve_100 : decode cX12_resolve 100 = .ok (.iaload, 1) := by decide +kernel
theorem dX12_resolve_101 : decode cX12_resolve 101 = .ok (.invokevirtual 158, 3) := by decide +kernel
theorem dX12_resolve_104 : decode cX12_resolve 104 = .ok (.goto 85, 3) := by decide +kernel
theorem dX12_resolve_107 : decode cX12_resolve 107 = .ok (.aload_n 0, 1) := by decide +kernel
theorem dX12_resolve_108 : decode cX12_resolve 108 = .ok (.getfield 7, 3) := by decide +kernel
theorem dX12_resolve_111 : decode cX12_resolve 111 = .ok (.iload 4, 2) := by decide +kernel
theorem dX12_resolve_113 : decode cX12_resolve 113 = .ok (.iaload, 1) := by decide +kernel
theorem dX12_resolve_114 : decode cX12_resolve 114 = .ok (.ifCond .eq 24, 3) := by decide +kernel
theorem dX12_resolve_117 : decode cX12_resolve 117 = .ok (.aload_n 0, 1) := by decide +kernel
theorem dX12_resolve_118 : decode cX12_resolve 118 = .ok (.getfield 7, 3) := by decide +kernel
theorem dX12_resolve_121 : decode cX12_resolve 121 = .ok (.iload 4, 2) := by decide +kernel
theorem dX12_resolve_123 : decode cX12_resolve 123 = .ok (.iaload, 1) := by decide +kernel
theorem dX12_resolve_124 : decode cX12_resolve 124 = .ok (.iconst 1, 1) := by decide +kernel
theorem dX12_resolve_125 : decode cX12_resolve 125 = .ok (.if_icmp .ne 57, 3) := by decide +kernel
theorem dX12_resolve_128 : decode cX12_resolve 128 = .ok (.aload_n 0, 1) := by decide +kernel
theorem dX12_resolve_129 : decode cX12_resolve 129 = .ok (.getfield 29, 3) := by decide +kernel
theorem dX12_resolve_132 : decode cX12_resolve 132 = .ok (.iload 4, 2) := by decide +kernel
theorem dX12_resolve_134 : decode cX12_resolve 134 = .ok (.iaload, 1) := by decide +kernel
theorem dX12_resolve_135 : decode cX12_resolve 135 = .ok (.ifCond .ne 47, 3) := by decide +kernel
theorem dX12_resolve_138 : decode cX12_resolve 138 = .ok (.aload_n 0, 1) := by decide +kernel
theorem dX12_resolve_139 : decode cX12_resolve 139 = .ok (.getfield 83, 3) := by decide +kernel
theorem dX12_resolve_142 : decode cX12_resolve 142 = .ok (.aload_n 0, 1) := by decide +kernel
theorem dX12_resolve_143 : decode cX12_resolve 143 = .ok (.getfield 162, 3) := by decide +kernel
theorem dX12_resolve_146 : decode cX12_resolve 146 = .ok (.iconst 1, 1) := by decide +kernel
theorem dX12_resolve_147 : decode cX12_resolve 147 = .ok (.bastore, 1) := by decide +kernel
theorem dX12_resolve_148 : decode cX12_resolve 148 = .ok (.aload_n 0, 1) := by decide +kernel
theorem dX12_resolve_149 : decode cX12_resolve 149 = .ok (.getfield 71, 3) := by decide +kernel
theorem dX12_resolve_152 : decode cX12_resolve 152 = .ok (.aload_n 0, 1) := by decide +kernel
theorem dX12_resolve_153 : decode cX12_resolve 153 = .ok (.getfield 162, 3) := by decide +kernel
theorem dX12_resolve_156 : decode cX12_resolve 156 = .ok (.iload 4, 2) := by decide +kernel
theorem dX12_resolve_158 : decode cX12_resolve 158 = .ok (.iastore, 1) := by decide +kernel
theorem dX12_resolve_159 : decode cX12_resolve 159 = .ok (.aload_n 0, 1) := by decide +kernel
theorem dX12_resolve_160 : decode cX12_resolve 160 = .ok (.getfield 74, 3) := by decide +kernel
theorem dX12_resolve_163 : decode cX12_resolve 163 = .ok (.aload_n 0, 1) := by decide +kernel
theorem dX12_resolve_164 : decode cX12_resolve 164 = .ok (.getfield 162, 3) := by decide +kernel
theorem dX12_resolve_167 : decode cX12_resolve 167 = .ok (.iload_n 3, 1) := by decide +kernel
theorem dX12_resolve_168 : decode cX12_resolve 168 = .ok (.iastore, 1) := by decide +kernel
theorem dX12_resolve_169 : decode cX12_resolve 169 = .ok (.aload_n 0, 1) := by decide +kernel
theorem dX12_resolve_170 : decode cX12_resolve 170 = .ok (.dup, 1) := by decide +kernel
theorem dX12_resolve_171 : decode cX12_resolve 171 = .ok (.getfield 162, 3) := by decide +kernel
theorem dX12_resolve_174 : decode cX12_resolve 174 = .ok (.iconst 1, 1) := by decide +kernel
theorem dX12_resolve_175 : decode cX12_resolve 175 = .ok (.iadd, 1) := by decide +kernel
theorem dX12_resolve_176 : decode cX12_resolve 176 = .ok (.putfield 162, 3) := by decide +kernel
theorem dX12_resolve_179 : decode cX12_resolve 179 = .ok (.goto 10, 3) := by decide +kernel
theorem dX12_resolve_182 : decode cX12_resolve 182 = .ok (.aload_n 0, 1) := by decide +kernel
theorem dX12_resolve_183 : decode cX12_resolve 183 = .ok (.iload_n 3, 1) := by decide +kernel
theorem dX12_resolve_184 : decode cX12_resolve 184 = .ok (.iconst 1, 1) := by decide +kernel
theorem dX12_resolve_185 : decode cX12_resolve 185 = .ok (.iload_n 2, 1) := by decide +kernel
theorem dX12_resolve_186 : decode cX12_resolve 186 = .ok (.invokevirtual 158, 3) := by decide +kernel
theorem dX12_resolve_189 : decode cX12_resolve 189 = .ok (.return_, 1) := by decide +kernel
theorem dX12_reject_0 : decode cX12_reject 0 = .ok (.aload_n 0, 1) := by decide +kernel
theorem dX12_reject_1 : decode cX12_reject 1 = .ok (.getfield 47, 3) := by decide +kernel
theorem dX12_reject_4 : decode cX12_reject 4 = .ok (.iload_n 1, 1) := by decide +kernel
theorem dX12_reject_5 : decode cX12_reject 5 = .ok (.baload, 1) := by decide +kernel
theorem dX12_reject_6 : decode cX12_reject 6 = .ok (.ifCond .eq 4, 3) := by decide +kernel
theorem dX12_reject_9 : decode cX12_reject 9 = .ok (.return_, 1) := by decide +kernel
theorem dX12_reject_10 : decode cX12_reject 10 = .ok (.aload_n 0, 1) := by decide +kernel
theorem dX12_reject_11 : decode cX12_reject 11 = .ok (.getfield 47, 3) := by decide +kernel
theorem dX12_reject_14 : decode cX12_reject 14 = .ok (.iload_n 1, 1) := by decide +kernel
theorem dX12_reject_15 : decode cX12_reject 15 = .ok (.iconst 1, 1) := by decide +kernel
theorem dX12_reject_16 : decode cX12_reject 16 = .ok (.bastore, 1) := by decide +kernel
theorem dX12_reject_17 : decode cX12_reject 17 = .ok (.aload_n 0, 1) := by decide +kernel
theorem dX12_reject_18 : decode cX12_reject 18 = .ok (.aload_n 0, 1) := by decide +kernel
theorem dX12_reject_19 : decode cX12_reject 19 = .ok (.getfield 44, 3) := by decide +kernel
theorem dX12_reject_22 : decode cX12_reject 22 = .ok (.iload_n 1, 1) := by decide +kernel
theorem dX12_reject_23 : decode cX12_reject 23 = .ok (.iaload, 1) := by decide +kernel
theorem dX12_reject_24 : decode cX12_reject 24 = .ok (.iconst 2, 1) := by decide +kernel
theorem dX12_reject_25 : decode cX12_reject 25 = .ok (.iload_n 2, 1) := by decide +kernel
theorem dX12_reject_26 : decode cX12_reject 26 = .ok (.invokevirtual 158, 3) := by decide +kernel
theorem dX12_reject_29 : decode cX12_reject 29 = .ok (.return_, 1) := by decide +kernel
theorem dX12_settle_0 : decode cX12_settle 0 = .ok (.aload_n 0, 1) := by decide +kernel
theorem dX12_settle_1 : decode cX12_settle 1 = .ok (.getfield 13, 3) := by decide +kernel
theorem dX12_settle_4 : decode cX12_settle 4 = .ok (.iload_n 1, 1) := by decide +kernel
theorem dX12_settle_5 : decode cX12_settle 5 = .ok (.iload_n 2, 1) := by decide +kernel
theorem dX12_settle_6 : decode cX12_settle 6 = .ok (.iastore, 1) := by decide +kernel
theorem dX12_settle_7 : decode cX12_settle 7 = .ok (.aload_n 0, 1) := by decide +kernel
theorem dX12_settle_8 : decode cX12_settle 8 = .ok (.getfield 16, 3) := by decide +kernel
theorem dX12_settle_11 : decode cX12_settle 11 = .ok (.iload_n 1, 1) := by decide +kernel
theorem dX12_settle_12 : decode cX12_settle 12 = .ok (.iload_n 3, 1) := by decide +kernel
theorem dX12_settle_13 : decode cX12_settle 13 = .ok (.iastore, 1) := by decide +kernel
theorem dX12_settle_14 : decode cX12_settle 14 = .ok (.aload_n 0, 1) := by decide +kernel
theorem dX12_settle_15 : decode cX12_settle 15 = .ok (.getfield 19, 3) := by decide +kernel
theorem dX12_settle_18 : decode cX12_settle 18 = .ok (.iload_n 1, 1) := by decide +kernel
theorem dX12_settle_19 : decode cX12_settle 19 = .ok (.iaload, 1) := by decide +kernel
theorem dX12_settle_20 : decode cX12_settle 20 = .ok (.istore 4, 2) := by decide +kernel
theorem dX12_settle_22 : decode cX12_settle 22 = .ok (.iload 4, 2) := by decide +kernel
theorem dX12_settle_24 : decode cX12_settle 24 = .ok (.ifCond .lt 23, 3) := by decide +kernel
theorem dX12_settle_27 : decode cX12_settle 27 = .ok (.aload_n 0, 1) := by decide +kernel
theorem dX12_settle_28 : decode cX12_settle 28 = .ok (.iload 4, 2) := by decide +kernel
theorem dX12_settle_30 : decode cX12_settle 30 = .ok (.iload_n 2, 1) := by decide +kernel
theorem dX12_settle_31 : decode cX12_settle 31 = .ok (.iload_n 3, 1) := by decide +kernel
theorem dX12_settle_32 : decode cX12_settle 32 = .ok (.invokevirtual 165, 3) := by decide +kernel
theorem dX12_settle_35 : decode cX12_settle 35 = .ok (.aload_n 0, 1) := by decide +kernel
theorem dX12_settle_36 : decode cX12_settle 36 = .ok (.getfield 50, 3) := by decide +kernel
theorem dX12_settle_39 : decode cX12_settle 39 = .ok (.iload 4, 2) := by decide +kernel
theorem dX12_settle_41 : decode cX12_settle 41 = .ok (.iaload, 1) := by decide +kernel
theorem dX12_settle_42 : decode cX12_settle 42 = .ok (.istore 4, 2) := by decide +kernel
theorem dX12_settle_44 : decode cX12_settle 44 = .ok (.goto (-22), 3) := by decide +kernel
theorem dX12_settle_47 : decode cX12_settle 47 = .ok (.aload_n 0, 1) := by decide +kernel
theorem dX12_settle_48 : decode cX12_settle 48 = .ok (.getfield 19, 3) := by decide +kernel
theorem dX12_settle_51 : decode cX12_settle 51 = .ok (.iload_n 1, 1) := by decide +kernel
theorem dX12_settle_52 : decode cX12_settle 52 = .ok (.iconst (-1), 1) := by decide +kernel
theorem dX12_settle_53 : decode cX12_settle 53 = .ok (.iastore, 1) := by decide +kernel
theorem dX12_settle_54 : decode cX12_settle 54 = .ok (.return_, 1) := by decide +kernel
theorem dX12_react_0 : decode cX12_react 0 = .ok (.aload_n 0, 1) := by decide +kernel
theorem dX12_react_1 : decode cX12_react 1 = .ok (.getfield 83, 3) := by decide +kernel
theorem dX12_react_4 : decode cX12_react 4 = .ok (.aload_n 0, 1) := by decide +kernel
theorem dX12_react_5 : decode cX12_react 5 = .ok (.getfield 162, 3) := by decide +kernel
theorem dX12_react_8 : decode cX12_react 8 = .ok (.iconst 0, 1) := by decide +kernel
theorem dX12_react_9 : decode cX12_react 9 = .ok (.bastore, 1) := by decide +kernel
theorem dX12_react_10 : decode cX12_react 10 = .ok (.aload_n 0, 1) := by decide +kernel
theorem dX12_react_11 : decode cX12_react 11 = .ok (.getfield 80, 3) := by decide +kernel
theorem dX12_react_14 : decode cX12_react 14 = .ok (.aload_n 0, 1) := by decide +kernel
theorem dX12_react_15 : decode cX12_react 15 = .ok (.getfield 162, 3) := by decide +kernel
theorem dX12_react_18 : decode cX12_react 18 = .ok (.iload_n 2, 1) := by decide +kernel
theorem dX12_react_19 : decode cX12_react 19 = .ok (.iconst 2, 1) := by decide +kernel
theorem dX12_react_20 : decode cX12_react 20 = .ok (.if_icmp .ne 7, 3) := by decide +kernel
theorem dX12_react_23 : decode cX12_react 23 = .ok (.iconst 1, 1) := by decide +kernel
theorem dX12_react_24 : decode cX12_react 24 = .ok (.goto 4, 3) := by decide +kernel
theorem dX12_react_27 : decode cX12_react 27 = .ok (.iconst 0, 1) := by decide +kernel
theorem dX12_react_28 : decode cX12_react 28 = .ok (.bastore, 1) := by decide +kernel
theorem dX12_react_29 : decode cX12_react 29 = .ok (.aload_n 0, 1) := by decide +kernel
theorem dX12_react_30 : decode cX12_react 30 = .ok (.getfield 68, 3) := by decide +kernel
theorem dX12_react_33 : decode cX12_react 33 = .ok (.aload_n 0, 1) := by decide +kernel
theorem dX12_react_34 : decode cX12_react 34 = .ok (.getfield 162, 3) := by decide +kernel
theorem dX12_react_37 : decode cX12_react 37 = .ok (.iload_n 2, 1) := by decide +kernel
theorem dX12_react_38 : decode cX12_react 38 = .ok (.iconst 2, 1) := by decide +kernel
theorem dX12_react_39 : decode cX12_react 39 = .ok (.if_icmp .ne 12, 3) := by decide +kernel
theorem dX12_react_42 : decode cX12_react 42 = .ok (.aload_n 0, 1) := by decide +kernel
theorem dX12_react_43 : decode cX12_react 43 = .ok (.getfield 62, 3) := by decide +kernel
theorem dX12_react_46 : decode cX12_react 46 = .ok (.iload_n 1, 1) := by decide +kernel
theorem dX12_react_47 : decode cX12_react 47 = .ok (.iaload, 1) := by decide +kernel
theorem dX12_react_48 : decode cX12_react 48 = .ok (.goto 9, 3) := by decide +kernel
theorem dX12_react_51 : decode cX12_react 51 = .ok (.aload_n 0, 1) := by decide +kernel
theorem dX12_react_52 : decode cX12_react 52 = .ok (.getfield 56, 3) := by decide +kernel
theorem dX12_react_55 : decode cX12_react 55 = .ok (.iload_n 1, 1) := by decide +kernel
theorem dX12_react_56 : decode cX12_react 56 = .ok (.iaload, 1) := by decide +kernel
theorem dX12_react_57 : decode cX12_react 57 = .ok (.iastore, 1) := by decide +kernel
theorem dX12_react_58 : decode cX12_react 58 = .ok (.aload_n 0, 1) := by decide +kernel
theorem dX12_react_59 : decode cX12_react 59 = .ok (.getfield 71, 3) := by decide +kernel
theorem dX12_react_62 : decode cX12_react 62 = .ok (.aload_n 0, 1) := by decide +kernel
theorem dX12_react_63 : decode cX12_react 63 = .ok (.getfield 162, 3) := by decide +kernel
theorem dX12_react_66 : decode cX12_react 66 = .ok (.iload_n 2, 1) := by decide +kernel
theorem dX12_react_67 : decode cX12_react 67 = .ok (.iconst 2, 1) := by decide +kernel
theorem dX12_react_68 : decode cX12_react 68 = .ok (.if_icmp .ne 12, 3) := by decide +kernel
theorem dX12_react_71 : decode cX12_react 71 = .ok (.aload_n 0, 1) := by decide +kernel
theorem dX12_react_72 : decode cX12_react 72 = .ok (.getfield 65, 3) := by decide +kernel
theorem dX12_react_75 : decode cX12_react 75 = .ok (.iload_n 1, 1) := by decide +kernel
theorem dX12_react_76 : decode cX12_react 76 = .ok (.iaload, 1) := by decide +kernel
theorem dX12_react_77 : decode cX12_react 77 = .ok (.goto 9, 3) := by decide +kernel
theorem dX12_react_80 : decode cX12_react 80 = .ok (.aload_n 0, 1) := by decide +kernel
theorem dX12_react_81 : decode cX12_react 81 = .ok (.getfield 59, 3) := by decide +kernel
theorem dX12_react_84 : decode cX12_react 84 = .ok (.iload_n 1, 1) := by decide +kernel
theorem dX12_react_85 : decode cX12_react 85 = .ok (.iaload, 1) := by decide +kernel
theorem dX12_react_86 : decode cX12_react 86 = .ok (.iastore, 1) := by decide +kernel
theorem dX12_react_87 : decode cX12_react 87 = .ok (.aload_n 0, 1) := by decide +kernel
theorem dX12_react_88 : decode cX12_react 88 = .ok (.getfield 74, 3) := by decide +kernel
theorem dX12_react_91 : decode cX12_react 91 = .ok (.aload_n 0, 1) := by decide +kernel
theorem dX12_react_92 : decode cX12_react 92 = .ok (.getfield 162, 3) := by decide +kernel
theorem dX12_react_95 : decode cX12_react 95 = .ok (.aload_n 0, 1) := by decide +kernel
theorem dX12_react_96 : decode cX12_react 96 = .ok (.getfield 53, 3) := by decide +kernel
theorem dX12_react_99 : decode cX12_react 99 = .ok (.iload_n 1, 1) := by decide +kernel
theorem dX12_react_100 : decode cX12_react 100 = .ok (.iaload, 1) := by decide +kernel
theorem dX12_react_101 : decode cX12_react 101 = .ok (.iastore, 1) := by decide +kernel
theorem dX12_react_102 : decode cX12_react 102 = .ok (.aload_n 0, 1) := by decide +kernel
theorem dX12_react_103 : decode cX12_react 103 = .ok (.getfield 77, 3) := by decide +kernel
theorem dX12_react_106 : decode cX12_react 106 = .ok (.aload_n 0, 1) := by decide +kernel
theorem dX12_react_107 : decode cX12_react 107 = .ok (.getfield 162, 3) := by decide +kernel
theorem dX12_react_110 : decode cX12_react 110 = .ok (.iload_n 3, 1) := by decide +kernel
theorem dX12_react_111 : decode cX12_react 111 = .ok (.iastore, 1) := by decide +kernel
theorem dX12_react_112 : decode cX12_react 112 = .ok (.aload_n 0, 1) := by decide +kernel
theorem dX12_react_113 : decode cX12_react 113 = .ok (.dup, 1) := by decide +kernel
theorem dX12_react_114 : decode cX12_react 114 = .ok (.getfield 162, 3) := by decide +kernel
theorem dX12_react_117 : decode cX12_react 117 = .ok (.iconst 1, 1) := by decide +kernel
theorem dX12_react_118 : decode cX12_react 118 = .ok (.iadd, 1) := by decide +kernel
theorem dX12_react_119 : decode cX12_react 119 = .ok (.putfield 162, 3) := by decide +kernel
theorem dX12_react_122 : decode cX12_react 122 = .ok (.return_, 1) := by decide +kernel
theorem dX12_performThen_0 : decode cX12_performThen 0 = .ok (.aload_n 0, 1) := by decide +kernel
theorem dX12_performThen_1 : decode cX12_performThen 1 = .ok (.getfield 168, 3) := by decide +kernel
theorem dX12_performThen_4 : decode cX12_performThen 4 = .ok (.istore 7, 2) := by decide +kernel
theorem dX12_performThen_6 : decode cX12_performThen 6 = .ok (.aload_n 0, 1) := by decide +kernel
theorem dX12_performThen_7 : decode cX12_performThen 7 = .ok (.dup, 1) := by decide +kernel
theorem dX12_performThen_8 : decode cX12_performThen 8 = .ok (.getfield 168, 3) := by decide +kernel
theorem dX12_performThen_11 : decode cX12_performThen 11 = .ok (.iconst 1, 1) := by decide +kernel
theorem dX12_performThen_12 : decode cX12_performThen 12 = .ok (.iadd, 1) := by decide +kernel
theorem dX12_performThen_13 : decode cX12_performThen 13 = .ok (.putfield 168, 3) := by decide +kernel
theorem dX12_performThen_16 : decode cX12_performThen 16 = .ok (.aload_n 0, 1) := by decide +kernel
theorem dX12_performThen_17 : decode cX12_performThen 17 = .ok (.getfield 50, 3) := by decide +kernel
theorem dX12_performThen_20 : decode cX12_performThen 20 = .ok (.iload 7, 2) := by decide +kernel
theorem dX12_performThen_22 : decode cX12_performThen 22 = .ok (.iconst (-1), 1) := by decide +kernel
theorem dX12_performThen_23 : decode cX12_performThen 23 = .ok (.iastore, 1) := by decide +kernel
theorem dX12_performThen_24 : decode cX12_performThen 24 = .ok (.aload_n 0, 1) := by decide +kernel
theorem dX12_performThen_25 : decode cX12_performThen 25 = .ok (.getfield 53, 3) := by decide +kernel
theorem dX12_performThen_28 : decode cX12_performThen 28 = .ok (.iload 7, 2) := by decide +kernel
theorem dX12_performThen_30 : decode cX12_performThen 30 = .ok (.iload 6, 2) := by decide +kernel
theorem dX12_performThen_32 : decode cX12_performThen 32 = .ok (.iastore, 1) := by decide +kernel
theorem dX12_performThen_33 : decode cX12_performThen 33 = .ok (.aload_n 0, 1) := by decide +kernel
theorem dX12_performThen_34 : decode cX12_performThen 34 = .ok (.getfield 56, 3) := by decide +kernel
theorem dX12_performThen_37 : decode cX12_performThen 37 = .ok (.iload 7, 2) := by decide +kernel
theorem dX12_performThen_39 : decode cX12_performThen 39 = .ok (.iload_n 2, 1) := by decide +kernel
theorem dX12_performThen_40 : decode cX12_performThen 40 = .ok (.iastore, 1) := by decide +kernel
theorem dX12_performThen_41 : decode cX12_performThen 41 = .ok (.aload_n 0, 1) := by decide +kernel
theorem dX12_performThen_42 : decode cX12_performThen 42 = .ok (.getfield 59, 3) := by decide +kernel
theorem dX12_performThen_45 : decode cX12_performThen 45 = .ok (.iload 7, 2) := by decide +kernel
theorem dX12_performThen_47 : decode cX12_performThen 47 = .ok (.iload_n 3, 1) := by decide +kernel
theorem dX12_performThen_48 : decode cX12_performThen 48 = .ok (.iastore, 1) := by decide +kernel
theorem dX12_performThen_49 : decode cX12_performThen 49 = .ok (.aload_n 0, 1) := by decide +kernel
theorem dX12_performThen_50 : decode cX12_performThen 50 = .ok (.getfield 62, 3) := by decide +kernel
theorem dX12_performThen_53 : decode cX12_performThen 53 = .ok (.iload 7, 2) := by decide +kernel
theorem dX12_performThen_55 : decode cX12_performThen 55 = .ok (.iload 4, 2) := by decide +kernel
theorem dX12_performThen_57 : decode cX12_performThen 57 = .ok (.iastore, 1) := by decide +kernel
theorem dX12_performThen_58 : decode cX12_performThen 58 = .ok (.aload_n 0, 1) := by decide +kernel
theorem dX12_performThen_59 : decode cX12_performThen 59 = .ok (.getfield 65, 3) := by decide +kernel
theorem dX12_performThen_62 : decode cX12_performThen 62 = .ok (.iload 7, 2) := by decide +kernel
theorem dX12_performThen_64 : decode cX12_performThen 64 = .ok (.iload 5, 2) := by decide +kernel
theorem dX12_performThen_66 : decode cX12_performThen 66 = .ok (.iastore, 1) := by decide +kernel
theorem dX12_performThen_67 : decode cX12_performThen 67 = .ok (.aload_n 0, 1) := by decide +kernel
theorem dX12_performThen_68 : decode cX12_performThen 68 = .ok (.getfield 13, 3) := by decide +kernel
theorem dX12_performThen_71 : decode cX12_performThen 71 = .ok (.iload_n 1, 1) := by decide +kernel
theorem dX12_performThen_72 : decode cX12_performThen 72 = .ok (.iaload, 1) := by decide +kernel
theorem dX12_performThen_73 : decode cX12_performThen 73 = .ok (.ifCond .eq 24, 3) := by decide +kernel
theorem dX12_performThen_76 : decode cX12_performThen 76 = .ok (.aload_n 0, 1) := by decide +kernel
theorem dX12_performThen_77 : decode cX12_performThen 77 = .ok (.iload 7, 2) := by decide +kernel
theorem dX12_performThen_79 : decode cX12_performThen 79 = .ok (.aload_n 0, 1) := by decide +kernel
theorem dX12_performThen_80 : decode cX12_performThen 80 = .ok (.getfield 13, 3) := by decide +kernel
theorem dX12_performThen_83 : decode cX12_performThen 83 = .ok (.iload_n 1, 1) := by decide +kernel
theorem dX12_performThen_84 : decode cX12_performThen 84 = .ok (.iaload, 1) := by decide +kernel
theorem dX12_performThen_85 : decode cX12_performThen 85 = .ok (.aload_n 0, 1) := by decide +kernel
theorem dX12_performThen_86 : decode cX12_performThen 86 = .ok (.getfield 16, 3) := by decide +kernel
theorem dX12_performThen_89 : decode cX12_performThen 89 = .ok (.iload_n 1, 1) := by decide +kernel
theorem dX12_performThen_90 : decode cX12_performThen 90 = .ok (.iaload, 1) := by decide +kernel
theorem dX12_performThen_91 : decode cX12_performThen 91 = .ok (.invokevirtual 165, 3) := by decide +kernel
theorem dX12_performThen_94 : decode cX12_performThen 94 = .ok (.goto 62, 3) := by decide +kernel
theorem dX12_performThen_97 : decode cX12_performThen 97 = .ok (.aload_n 0, 1) := by decide +kernel
theorem dX12_performThen_98 : decode cX12_performThen 98 = .ok (.getfield 19, 3) := by decide +kernel
theorem dX12_performThen_101 : decode cX12_performThen 101 = .ok (.iload_n 1, 1) := by decide +kernel
theorem dX12_performThen_102 : decode cX12_performThen 102 = .ok (.iaload, 1) := by decide +kernel
theorem dX12_performThen_103 : decode cX12_performThen 103 = .ok (.ifCond .ge 14, 3) := by decide +kernel
theorem dX12_performThen_106 : decode cX12_performThen 106 = .ok (.aload_n 0, 1) := by decide +kernel
theorem dX12_performThen_107 : decode cX12_performThen 107 = .ok (.getfield 19, 3) := by decide +kernel
theorem dX12_performThen_110 : decode cX12_performThen 110 = .ok (.iload_n 1, 1) := by decide +kernel
theorem dX12_performThen_111 : decode cX12_performThen 111 = .ok (.iload 7, 2) := by decide +kernel
theorem dX12_performThen_113 : decode cX12_performThen 113 = .ok (.iastore, 1) := by decide +kernel
theorem dX12_performThen_114 : decode cX12_performThen 114 = .ok (.goto 42, 3) := by decide +kernel
theorem dX12_performThen_117 : decode cX12_performThen 117 = .ok (.aload_n 0, 1) := by decide +kernel
theorem dX12_performThen_118 : decode cX12_performThen 118 = .ok (.getfield 19, 3) := by decide +kernel
theorem dX12_performThen_121 : decode cX12_performThen 121 = .ok (.iload_n 1, 1) := by decide +kernel
theorem dX12_performThen_122 : decode cX12_performThen 122 = .ok (.iaload, 1) := by decide +kernel
theorem dX12_performThen_123 : decode cX12_performThen 123 = .ok (.istore 8, 2) := by decide +kernel
theorem dX12_performThen_125 : decode cX12_performThen 125 = .ok (.aload_n 0, 1) := by decide +kernel
theorem dX12_performThen_126 : decode cX12_performThen 126 = .ok (.getfield 50, 3) := by decide +kernel
theorem dX12_performThen_129 : decode cX12_performThen 129 = .ok (.iload 8, 2) := by decide +kernel
theorem dX12_performThen_131 : decode cX12_performThen 131 = .ok (.iaload, 1) := by decide +kernel
theorem dX12_performThen_132 : decode cX12_performThen 132 = .ok (.ifCond .lt 15, 3) := by decide +kernel
theorem dX12_performThen_135 : decode cX12_performThen 135 = .ok (.aload_n 0, 1) := by decide +kernel
theorem dX12_performThen_136 : decode cX12_performThen 136 = .ok (.getfield 50, 3) := by decide +kernel
theorem dX12_performThen_139 : decode cX12_performThen 139 = .ok (.iload 8, 2) := by decide +kernel
theorem dX12_performThen_141 : decode cX12_performThen 141 = .ok (.iaload, 1) := by decide +kernel
theorem dX12_performThen_142 : decode cX12_performThen 142 = .ok (.istore 8, 2) := by decide +kernel
theorem dX12_performThen_144 : decode cX12_performThen 144 = .ok (.goto (-19), 3) := by decide +kernel
theorem dX12_performThen_147 : decode cX12_performThen 147 = .ok (.aload_n 0, 1) := by decide +kernel
theorem dX12_performThen_148 : decode cX12_performThen 148 = .ok (.getfield 50, 3) := by decide +kernel
theorem dX12_performThen_151 : decode cX12_performThen 151 = .ok (.iload 8, 2) := by decide +kernel
theorem dX12_performThen_153 : decode cX12_performThen 153 = .ok (.iload 7, 2) := by decide +kernel
theorem dX12_performThen_155 : decode cX12_performThen 155 = .ok (.iastore, 1) := by decide +kernel
theorem dX12_performThen_156 : decode cX12_performThen 156 = .ok (.aload_n 0, 1) := by decide +kernel
theorem dX12_performThen_157 : decode cX12_performThen 157 = .ok (.getfield 25, 3) := by decide +kernel
theorem dX12_performThen_160 : decode cX12_performThen 160 = .ok (.iload_n 1, 1) := by decide +kernel
theorem dX12_performThen_161 : decode cX12_performThen 161 = .ok (.iconst 1, 1) := by decide +kernel
theorem dX12_performThen_162 : decode cX12_performThen 162 = .ok (.bastore, 1) := by decide +kernel
theorem dX12_performThen_163 : decode cX12_performThen 163 = .ok (.return_, 1) := by decide +kernel
theorem dX12_then_0 : decode cX12_then 0 = .ok (.aload_n 0, 1) := by decide +kernel
theorem dX12_then_1 : decode cX12_then 1 = .ok (.invokevirtual 171, 3) := by decide +kernel
theorem dX12_then_4 : decode cX12_then 4 = .ok (.istore 6, 2) := by decide +kernel
theorem dX12_then_6 : decode cX12_then 6 = .ok (.aload_n 0, 1) := by decide +kernel
theorem dX12_then_7 : decode cX12_then 7 = .ok (.iload_n 1, 1) := by decide +kernel
theorem dX12_then_8 : decode cX12_then 8 = .ok (.iload_n 2, 1) := by decide +kernel
theorem dX12_then_9 : decode cX12_then 9 = .ok (.iload_n 3, 1) := by decide +kernel
theorem dX12_then_10 : decode cX12_then 10 = .ok (.iload 4, 2) := by decide +kernel
theorem dX12_then_12 : decode cX12_then 12 = .ok (.iload 5, 2) := by decide +kernel
theorem dX12_then_14 : decode cX12_then 14 = .ok (.iload 6, 2) := by decide +kernel
theorem dX12_then_16 : decode cX12_then 16 = .ok (.invokevirtual 175, 3) := by decide +kernel
theorem dX12_then_19 : decode cX12_then 19 = .ok (.aload_n 0, 1) := by decide +kernel
theorem dX12_then_20 : decode cX12_then 20 = .ok (.getfield 44, 3) := by decide +kernel
theorem dX12_then_23 : decode cX12_then 23 = .ok (.iload 6, 2) := by decide +kernel
theorem dX12_then_25 : decode cX12_then 25 = .ok (.iaload, 1) := by decide +kernel
theorem dX12_then_26 : decode cX12_then 26 = .ok (.ireturn, 1) := by decide +kernel
theorem dX12_promiseOf_0 : decode cX12_promiseOf 0 = .ok (.aload_n 0, 1) := by decide +kernel
theorem dX12_promiseOf_1 : decode cX12_promiseOf 1 = .ok (.iload_n 1, 1) := by decide +kernel
theorem dX12_promiseOf_2 : decode cX12_promiseOf 2 = .ok (.iconst 0, 1) := by decide +kernel
theorem dX12_promiseOf_3 : decode cX12_promiseOf 3 = .ok (.invokevirtual 179, 3) := by decide +kernel
theorem dX12_promiseOf_6 : decode cX12_promiseOf 6 = .ok (.ifCond .eq 8, 3) := by decide +kernel
theorem dX12_promiseOf_9 : decode cX12_promiseOf 9 = .ok (.bipush (-2), 2) := by decide +kernel
theorem dX12_promiseOf_11 : decode cX12_promiseOf 11 = .ok (.iload_n 1, 1) := by decide +kernel
theorem dX12_promiseOf_12 : decode cX12_promiseOf 12 = .ok (.isub, 1) := by decide +kernel
theorem dX12_promiseOf_13 : decode cX12_promiseOf 13 = .ok (.ireturn, 1) := by decide +kernel
theorem dX12_promiseOf_14 : decode cX12_promiseOf 14 = .ok (.aload_n 0, 1) := by decide +kernel
theorem dX12_promiseOf_15 : decode cX12_promiseOf 15 = .ok (.invokevirtual 171, 3) := by decide +kernel
theorem dX12_promiseOf_18 : decode cX12_promiseOf 18 = .ok (.istore_n 2, 1) := by decide +kernel
theorem dX12_promiseOf_19 : decode cX12_promiseOf 19 = .ok (.aload_n 0, 1) := by decide +kernel
theorem dX12_promiseOf_20 : decode cX12_promiseOf 20 = .ok (.iload_n 2, 1) := by decide +kernel
theorem dX12_promiseOf_21 : decode cX12_promiseOf 21 = .ok (.iload_n 1, 1) := by decide +kernel
theorem dX12_promiseOf_22 : decode cX12_promiseOf 22 = .ok (.invokevirtual 183, 3) := by decide +kernel
theorem dX12_promiseOf_25 : decode cX12_promiseOf 25 = .ok (.aload_n 0, 1) := by decide +kernel
theorem dX12_promiseOf_26 : decode cX12_promiseOf 26 = .ok (.getfield 44, 3) := by decide +kernel
theorem dX12_promiseOf_29 : decode cX12_promiseOf 29 = .ok (.iload_n 2, 1) := by decide +kernel
theorem dX12_promiseOf_30 : decode cX12_promiseOf 30 = .ok (.iaload, 1) := by decide +kernel
theorem dX12_promiseOf_31 : decode cX12_promiseOf 31 = .ok (.ireturn, 1) := by decide +kernel
theorem dX12_note_0 : decode cX12_note 0 = .ok (.aload_n 0, 1) := by decide +kernel
theorem dX12_note_1 : decode cX12_note 1 = .ok (.getfield 92, 3) := by decide +kernel
theorem dX12_note_4 : decode cX12_note 4 = .ok (.aload_n 0, 1) := by decide +kernel
theorem dX12_note_5 : decode cX12_note 5 = .ok (.getfield 187, 3) := by decide +kernel
theorem dX12_note_8 : decode cX12_note 8 = .ok (.iload_n 1, 1) := by decide +kernel
theorem dX12_note_9 : decode cX12_note 9 = .ok (.iastore, 1) := by decide +kernel
theorem dX12_note_10 : decode cX12_note 10 = .ok (.aload_n 0, 1) := by decide +kernel
theorem dX12_note_11 : decode cX12_note 11 = .ok (.getfield 95, 3) := by decide +kernel
theorem dX12_note_14 : decode cX12_note 14 = .ok (.aload_n 0, 1) := by decide +kernel
theorem dX12_note_15 : decode cX12_note 15 = .ok (.getfield 187, 3) := by decide +kernel
theorem dX12_note_18 : decode cX12_note 18 = .ok (.iload_n 2, 1) := by decide +kernel
theorem dX12_note_19 : decode cX12_note 19 = .ok (.iastore, 1) := by decide +kernel
theorem dX12_note_20 : decode cX12_note 20 = .ok (.aload_n 0, 1) := by decide +kernel
theorem dX12_note_21 : decode cX12_note 21 = .ok (.dup, 1) := by decide +kernel
theorem dX12_note_22 : decode cX12_note 22 = .ok (.getfield 187, 3) := by decide +kernel
theorem dX12_note_25 : decode cX12_note 25 = .ok (.iconst 1, 1) := by decide +kernel
theorem dX12_note_26 : decode cX12_note 26 = .ok (.iadd, 1) := by decide +kernel
theorem dX12_note_27 : decode cX12_note 27 = .ok (.putfield 187, 3) := by decide +kernel
theorem dX12_note_30 : decode cX12_note 30 = .ok (.return_, 1) := by decide +kernel
theorem dX12_handle_0 : decode cX12_handle 0 = .ok (.aload_n 0, 1) := by decide +kernel
theorem dX12_handle_1 : decode cX12_handle 1 = .ok (.iload_n 1, 1) := by decide +kernel
theorem dX12_handle_2 : decode cX12_handle 2 = .ok (.iload_n 2, 1) := by decide +kernel
theorem dX12_handle_3 : decode cX12_handle 3 = .ok (.invokevirtual 190, 3) := by decide +kernel
theorem dX12_handle_6 : decode cX12_handle 6 = .ok (.aload_n 0, 1) := by decide +kernel
theorem dX12_handle_7 : decode cX12_handle 7 = .ok (.aload_n 0, 1) := by decide +kernel
theorem dX12_handle_8 : decode cX12_handle 8 = .ok (.getfield 86, 3) := by decide +kernel
theorem dX12_handle_11 : decode cX12_handle 11 = .ok (.iload_n 1, 1) := by decide +kernel
theorem dX12_handle_12 : decode cX12_handle 12 = .ok (.iaload, 1) := by decide +kernel
theorem dX12_handle_13 : decode cX12_handle 13 = .ok (.iconst 2, 1) := by decide +kernel
theorem dX12_handle_14 : decode cX12_handle 14 = .ok (.if_icmp .eq 13, 3) := by decide +kernel
theorem dX12_handle_17 : decode cX12_handle 17 = .ok (.aload_n 0, 1) := by decide +kernel
theorem dX12_handle_18 : decode cX12_handle 18 = .ok (.getfield 86, 3) := by decide +kernel
theorem dX12_handle_21 : decode cX12_handle 21 = .ok (.iload_n 1, 1) := by decide +kernel
theorem dX12_handle_22 : decode cX12_handle 22 = .ok (.iaload, 1) := by decide +kernel
theorem dX12_handle_23 : decode cX12_handle 23 = .ok (.iconst 3, 1) := by decide +kernel
theorem dX12_handle_24 : decode cX12_handle 24 = .ok (.if_icmp .ne 7, 3) := by decide +kernel
theorem dX12_handle_27 : decode cX12_handle 27 = .ok (.iconst 1, 1) := by decide +kernel
theorem dX12_handle_28 : decode cX12_handle 28 = .ok (.goto 4, 3) := by decide +kernel
theorem dX12_handle_31 : decode cX12_handle 31 = .ok (.iconst 0, 1) := by decide +kernel
theorem dX12_handle_32 : decode cX12_handle 32 = .ok (.putfield 193, 3) := by decide +kernel
theorem dX12_handle_35 : decode cX12_handle 35 = .ok (.aload_n 0, 1) := by decide +kernel
theorem dX12_handle_36 : decode cX12_handle 36 = .ok (.getfield 86, 3) := by decide +kernel
theorem dX12_handle_39 : decode cX12_handle 39 = .ok (.iload_n 1, 1) := by decide +kernel
theorem dX12_handle_40 : decode cX12_handle 40 = .ok (.iaload, 1) := by decide +kernel
theorem dX12_handle_41 : decode cX12_handle 41 = .ok (.tableswitch 40 0 3 #[31, 38, 31, 38], 31) := by decide +kernel
theorem dX12_handle_72 : decode cX12_handle 72 = .ok (.aload_n 0, 1) := by decide +kernel
theorem dX12_handle_73 : decode cX12_handle 73 = .ok (.getfield 89, 3) := by decide +kernel
theorem dX12_handle_76 : decode cX12_handle 76 = .ok (.iload_n 1, 1) := by decide +kernel
theorem dX12_handle_77 : decode cX12_handle 77 = .ok (.iaload, 1) := by decide +kernel
theorem dX12_handle_78 : decode cX12_handle 78 = .ok (.ireturn, 1) := by decide +kernel
theorem dX12_handle_79 : decode cX12_handle 79 = .ok (.iload_n 2, 1) := by decide +kernel
theorem dX12_handle_80 : decode cX12_handle 80 = .ok (.ireturn, 1) := by decide +kernel
theorem dX12_handle_81 : decode cX12_handle 81 = .ok (.aload_n 0, 1) := by decide +kernel
theorem dX12_handle_82 : decode cX12_handle 82 = .ok (.getfield 22, 3) := by decide +kernel
theorem dX12_handle_85 : decode cX12_handle 85 = .ok (.bipush (-2), 2) := by decide +kernel
theorem dX12_handle_87 : decode cX12_handle 87 = .ok (.aload_n 0, 1) := by decide +kernel
theorem dX12_handle_88 : decode cX12_handle 88 = .ok (.getfield 89, 3) := by decide +kernel
theorem dX12_handle_91 : decode cX12_handle 91 = .ok (.iload_n 1, 1) := by decide +kernel
theorem dX12_handle_92 : decode cX12_handle 92 = .ok (.iaload, 1) := by decide +kernel
theorem dX12_handle_93 : decode cX12_handle 93 = .ok (.isub, 1) := by decide +kernel
theorem dX12_handle_94 : decode cX12_handle 94 = .ok (.iaload, 1) := by decide +kernel
theorem dX12_handle_95 : decode cX12_handle 95 = .ok (.istore_n 3, 1) := by decide +kernel
theorem dX12_handle_96 : decode cX12_handle 96 = .ok (.aload_n 0, 1) := by decide +kernel
theorem dX12_handle_97 : decode cX12_handle 97 = .ok (.getfield 86, 3) := by decide +kernel
theorem dX12_handle_100 : decode cX12_handle 100 = .ok (.iload_n 1, 1) := by decide +kernel
theorem dX12_handle_101 : decode cX12_handle 101 = .ok (.iaload, 1) := by decide +kernel
theorem dX12_handle_102 : decode cX12_handle 102 = .ok (.iconst 4, 1) := by decide +kernel
theorem dX12_handle_103 : decode cX12_handle 103 = .ok (.if_icmp .ne 12, 3) := by decide +kernel
theorem dX12_handle_106 : decode cX12_handle 106 = .ok (.aload_n 0, 1) := by decide +kernel
theorem dX12_handle_107 : decode cX12_handle 107 = .ok (.iload_n 3, 1) := by decide +kernel
theorem dX12_handle_108 : decode cX12_handle 108 = .ok (.iload_n 2, 1) := by decide +kernel
theorem dX12_handle_109 : decode cX12_handle 109 = .ok (.invokevirtual 183, 3) := by decide +kernel
theorem dX12_handle_112 : decode cX12_handle 112 = .ok (.goto 9, 3) := by decide +kernel
theorem dX12_handle_115 : decode cX12_handle 115 = .ok (.aload_n 0, 1) := by decide +kernel
theorem dX12_handle_116 : decode cX12_handle 116 = .ok (.iload_n 3, 1) := by decide +kernel
theorem dX12_handle_117 : decode cX12_handle 117 = .ok (.iload_n 2, 1) := by decide +kernel
theorem dX12_handle_118 : decode cX12_handle 118 = .ok (.invokevirtual 197, 3) := by decide +kernel
theorem dX12_handle_121 : decode cX12_handle 121 = .ok (.aload_n 0, 1) := by decide +kernel
theorem dX12_handle_122 : decode cX12_handle 122 = .ok (.iconst 0, 1) := by decide +kernel
theorem dX12_handle_123 : decode cX12_handle 123 = .ok (.putfield 193, 3) := by decide +kernel
theorem dX12_handle_126 : decode cX12_handle 126 = .ok (.iconst (-1), 1) := by decide +kernel
theorem dX12_handle_127 : decode cX12_handle 127 = .ok (.ireturn, 1) := by decide +kernel
theorem dX12_call_0 : decode cX12_call 0 = .ok (.aload_n 0, 1) := by decide +kernel
theorem dX12_call_1 : decode cX12_call 1 = .ok (.iconst 0, 1) := by decide +kernel
theorem dX12_call_2 : decode cX12_call 2 = .ok (.putfield 193, 3) := by decide +kernel
theorem dX12_call_5 : decode cX12_call 5 = .ok (.iload_n 1, 1) := by decide +kernel
theorem dX12_call_6 : decode cX12_call 6 = .ok (.tableswitch 129 1 12 #[62, 69, 77, 85, 85, 85, 85, 94, 94, 102, 109, 121], 62) := by decide +kernel
theorem dX12_call_68 : decode cX12_call 68 = .ok (.aload_n 0, 1) := by decide +kernel
theorem dX12_call_69 : decode cX12_call 69 = .ok (.iload_n 2, 1) := by decide +kernel
theorem dX12_call_70 : decode cX12_call 70 = .ok (.iload_n 3, 1) := by decide +kernel
theorem dX12_call_71 : decode cX12_call 71 = .ok (.invokevirtual 200, 3) := by decide +kernel
theorem dX12_call_74 : decode cX12_call 74 = .ok (.ireturn, 1) := by decide +kernel
theorem dX12_call_75 : decode cX12_call 75 = .ok (.aload_n 0, 1) := by decide +kernel
theorem dX12_call_76 : decode cX12_call 76 = .ok (.iload_n 2, 1) := by decide +kernel
theorem dX12_call_77 : decode cX12_call 77 = .ok (.iload_n 3, 1) := by decide +kernel
theorem dX12_call_78 : decode cX12_call 78 = .ok (.invokevirtual 183, 3) := by decide +kernel
theorem dX12_call_81 : decode cX12_call 81 = .ok (.iconst (-1), 1) := by decide +kernel
theorem dX12_call_82 : decode cX12_call 82 = .ok (.ireturn, 1) := by decide +kernel
theorem dX12_call_83 : decode cX12_call 83 = .ok (.aload_n 0, 1) := by decide +kernel
theorem dX12_call_84 : decode cX12_call 84 = .ok (.iload_n 2, 1) := by decide +kernel
theorem dX12_call_85 : decode cX12_call 85 = .ok (.iload_n 3, 1) := by decide +kernel
theorem dX12_call_86 : decode cX12_call 86 = .ok (.invokevirtual 197, 3) := by decide +kernel
theorem dX12_call_89 : decode cX12_call 89 = .ok (.iconst (-1), 1) := by decide +kernel
theorem dX12_call_90 : decode cX12_call 90 = .ok (.ireturn, 1) := by decide +kernel
theorem dX12_call_91 : decode cX12_call 91 = .ok (.aload_n 0, 1) := by decide +kernel
theorem dX12_call_92 : decode cX12_call 92 = .ok (.iload_n 1, 1) := by decide +kernel
theorem dX12_call_93 : decode cX12_call 93 = .ok (.iload_n 2, 1) := by decide +kernel
theorem dX12_call_94 : decode cX12_call 94 = .ok (.iload_n 3, 1) := by decide +kernel
theorem dX12_call_95 : decode cX12_call 95 = .ok (.invokevirtual 204, 3) := by decide +kernel
theorem dX12_call_98 : decode cX12_call 98 = .ok (.iconst (-1), 1) := by decide +kernel
theorem dX12_call_99 : decode cX12_call 99 = .ok (.ireturn, 1) := by decide +kernel
theorem dX12_call_100 : decode cX12_call 100 = .ok (.aload_n 0, 1) := by decide +kernel
theorem dX12_call_101 : decode cX12_call 101 = .ok (.iload_n 1, 1) := by decide +kernel
theorem dX12_call_102 : decode cX12_call 102 = .ok (.iload_n 2, 1) := by decide +kernel
theorem dX12_call_103 : decode cX12_call 103 = .ok (.iload_n 3, 1) := by decide +kernel
theorem dX12_call_104 : decode cX12_call 104 = .ok (.invokevirtual 207, 3) := by decide +kernel
theorem dX12_call_107 : decode cX12_call 107 = .ok (.ireturn, 1) := by decide +kernel
theorem dX12_call_108 : decode cX12_call 108 = .ok (.aload_n 0, 1) := by decide +kernel
theorem dX12_call_109 : decode cX12_call 109 = .ok (.getfield 101, 3) := by decide +kernel
theorem dX12_call_112 : decode cX12_call 112 = .ok (.iload_n 2, 1) := by decide +kernel
theorem dX12_call_113 : decode cX12_call 113 = .ok (.iaload, 1) := by decide +kernel
theorem dX12_call_114 : decode cX12_call 114 = .ok (.ireturn, 1) := by decide +kernel
theorem dX12_call_115 : decode cX12_call 115 = .ok (.aload_n 0, 1) := by decide +kernel
theorem dX12_call_116 : decode cX12_call 116 = .ok (.iconst 1, 1) := by decide +kernel
theorem dX12_call_117 : decode cX12_call 117 = .ok (.putfield 193, 3) := by decide +kernel
theorem dX12_call_120 : decode cX12_call 120 = .ok (.aload_n 0, 1) := by decide +kernel
theorem dX12_call_121 : decode cX12_call 121 = .ok (.getfield 101, 3) := by decide +kernel
theorem dX12_call_124 : decode cX12_call 124 = .ok (.iload_n 2, 1) := by decide +kernel
theorem dX12_call_125 : decode cX12_call 125 = .ok (.iaload, 1) := by decide +kernel
theorem dX12_call_126 : decode cX12_call 126 = .ok (.ireturn, 1) := by decide +kernel
theorem dX12_call_127 : decode cX12_call 127 = .ok (.aload_n 0, 1) := by decide +kernel
theorem dX12_call_128 : decode cX12_call 128 = .ok (.iload_n 2, 1) := by decide +kernel
theorem dX12_call_129 : decode cX12_call 129 = .ok (.iload_n 3, 1) := by decide +kernel
theorem dX12_call_130 : decode cX12_call 130 = .ok (.invokevirtual 211, 3) := by decide +kernel
theorem dX12_call_133 : decode cX12_call 133 = .ok (.iconst (-1), 1) := by decide +kernel
theorem dX12_call_134 : decode cX12_call 134 = .ok (.ireturn, 1) := by decide +kernel
theorem dX12_call_135 : decode cX12_call 135 = .ok (.aload_n 0, 1) := by decide +kernel
theorem dX12_call_136 : decode cX12_call 136 = .ok (.aload_n 0, 1) := by decide +kernel
theorem dX12_call_137 : decode cX12_call 137 = .ok (.getfield 119, 3) := by decide +kernel
theorem dX12_call_140 : decode cX12_call 140 = .ok (.iload_n 2, 1) := by decide +kernel
theorem dX12_call_141 : decode cX12_call 141 = .ok (.iaload, 1) := by decide +kernel
theorem dX12_call_142 : decode cX12_call 142 = .ok (.iload_n 3, 1) := by decide +kernel
theorem dX12_call_143 : decode cX12_call 143 = .ok (.invokevirtual 197, 3) := by decide +kernel
theorem dX12_call_146 : decode cX12_call 146 = .ok (.iconst (-1), 1) := by decide +kernel
theorem dX12_call_147 : decode cX12_call 147 = .ok (.ireturn, 1) := by decide +kernel
theorem dX12_last_0 : decode cX12_last 0 = .ok (.aload_n 0, 1) := by decide +kernel
theorem dX12_last_1 : decode cX12_last 1 = .ok (.iload_n 2, 1) := by decide +kernel
theorem dX12_last_2 : decode cX12_last 2 = .ok (.iconst (-1), 1) := by decide +kernel
theorem dX12_last_3 : decode cX12_last 3 = .ok (.invokevirtual 200, 3) := by decide +kernel
theorem dX12_last_6 : decode cX12_last 6 = .ok (.istore 4, 2) := by decide +kernel
theorem dX12_last_8 : decode cX12_last 8 = .ok (.aload_n 0, 1) := by decide +kernel
theorem dX12_last_9 : decode cX12_last 9 = .ok (.getfield 193, 3) := by decide +kernel
theorem dX12_last_12 : decode cX12_last 12 = .ok (.ifCond .eq 6, 3) := by decide +kernel
theorem dX12_last_15 : decode cX12_last 15 = .ok (.iload 4, 2) := by decide +kernel
theorem dX12_last_17 : decode cX12_last 17 = .ok (.ireturn, 1) := by decide +kernel
theorem dX12_last_18 : decode cX12_last 18 = .ok (.aload_n 0, 1) := by decide +kernel
theorem dX12_last_19 : decode cX12_last 19 = .ok (.iload 4, 2) := by decide +kernel
theorem dX12_last_21 : decode cX12_last 21 = .ok (.invokevirtual 214, 3) := by decide +kernel
theorem dX12_last_24 : decode cX12_last 24 = .ok (.istore 5, 2) := by decide +kernel
theorem dX12_last_26 : decode cX12_last 26 = .ok (.aload_n 0, 1) := by decide +kernel
theorem dX12_last_27 : decode cX12_last 27 = .ok (.getfield 217, 3) := by decide +kernel
theorem dX12_last_30 : decode cX12_last 30 = .ok (.istore 6, 2) := by decide +kernel
theorem dX12_last_32 : decode cX12_last 32 = .ok (.aload_n 0, 1) := by decide +kernel
theorem dX12_last_33 : decode cX12_last 33 = .ok (.dup, 1) := by decide +kernel
theorem dX12_last_34 : decode cX12_last 34 = .ok (.getfield 217, 3) := by decide +kernel
theorem dX12_last_37 : decode cX12_last 37 = .ok (.iconst 1, 1) := by decide +kernel
theorem dX12_last_38 : decode cX12_last 38 = .ok (.iadd, 1) := by decide +kernel
theorem dX12_last_39 : decode cX12_last 39 = .ok (.putfield 217, 3) := by decide +kernel
theorem dX12_last_42 : decode cX12_last 42 = .ok (.aload_n 0, 1) := by decide +kernel
theorem dX12_last_43 : decode cX12_last 43 = .ok (.getfield 101, 3) := by decide +kernel
theorem dX12_last_46 : decode cX12_last 46 = .ok (.iload 6, 2) := by decide +kernel
theorem dX12_last_48 : decode cX12_last 48 = .ok (.iload_n 3, 1) := by decide +kernel
theorem dX12_last_49 : decode cX12_last 49 = .ok (.iastore, 1) := by decide +kernel
theorem dX12_last_50 : decode cX12_last 50 = .ok (.aload_n 0, 1) := by decide +kernel
theorem dX12_last_51 : decode cX12_last 51 = .ok (.iload 5, 2) := by decide +kernel
theorem dX12_last_53 : decode cX12_last 53 = .ok (.iload_n 1, 1) := by decide +kernel
theorem dX12_last_54 : decode cX12_last 54 = .ok (.bipush 8, 2) := by decide +kernel
theorem dX12_last_56 : decode cX12_last 56 = .ok (.if_icmp .ne 8, 3) := by decide +kernel
theorem dX12_last_59 : decode cX12_last 59 = .ok (.bipush 10, 2) := by decide +kernel
theorem dX12_last_61 : decode cX12_last 61 = .ok (.goto 5, 3) := by decide +kernel
theorem dX12_last_64 : decode cX12_last 64 = .ok (.bipush 11, 2) := by decide +kernel
theorem dX12_last_66 : decode cX12_last 66 = .ok (.iload 6, 2) := by decide +kernel
theorem dX12_last_68 : decode cX12_last 68 = .ok (.iconst 0, 1) := by decide +kernel
theorem dX12_last_69 : decode cX12_last 69 = .ok (.iconst 0, 1) := by decide +kernel
theorem dX12_last_70 : decode cX12_last 70 = .ok (.invokevirtual 220, 3) := by decide +kernel
theorem dX12_last_73 : decode cX12_last 73 = .ok (.invokestatic 155, 3) := by decide +kernel
theorem dX12_last_76 : decode cX12_last 76 = .ok (.istore 7, 2) := by decide +kernel
theorem dX12_last_78 : decode cX12_last 78 = .ok (.aload_n 0, 1) := by decide +kernel
theorem dX12_last_79 : decode cX12_last 79 = .ok (.iconst 0, 1) := by decide +kernel
theorem dX12_last_80 : decode cX12_last 80 = .ok (.putfield 193, 3) := by decide +kernel
theorem dX12_last_83 : decode cX12_last 83 = .ok (.iload 7, 2) := by decide +kernel
theorem dX12_last_85 : decode cX12_last 85 = .ok (.ireturn, 1) := by decide +kernel
theorem dX12_array_0 : decode cX12_array 0 = .ok (.aload_n 0, 1) := by decide +kernel
theorem dX12_array_1 : decode cX12_array 1 = .ok (.iload_n 2, 1) := by decide +kernel
theorem dX12_array_2 : decode cX12_array 2 = .ok (.invokevirtual 148, 3) := by decide +kernel
theorem dX12_array_5 : decode cX12_array 5 = .ok (.istore_n 3, 1) := by decide +kernel
theorem dX12_array_6 : decode cX12_array 6 = .ok (.aload_n 0, 1) := by decide +kernel
theorem dX12_array_7 : decode cX12_array 7 = .ok (.getfield 29, 3) := by decide +kernel
theorem dX12_array_10 : decode cX12_array 10 = .ok (.iload_n 3, 1) := by decide +kernel
theorem dX12_array_11 : decode cX12_array 11 = .ok (.aload_n 0, 1) := by decide +kernel
theorem dX12_array_12 : decode cX12_array 12 = .ok (.getfield 110, 3) := by decide +kernel
theorem dX12_array_15 : decode cX12_array 15 = .ok (.iload_n 1, 1) := by decide +kernel
theorem dX12_array_16 : decode cX12_array 16 = .ok (.iaload, 1) := by decide +kernel
theorem dX12_array_17 : decode cX12_array 17 = .ok (.iastore, 1) := by decide +kernel
theorem dX12_array_18 : decode cX12_array 18 = .ok (.aload_n 0, 1) := by decide +kernel
theorem dX12_array_19 : decode cX12_array 19 = .ok (.getfield 32, 3) := by decide +kernel
theorem dX12_array_22 : decode cX12_array 22 = .ok (.iload_n 3, 1) := by decide +kernel
theorem dX12_array_23 : decode cX12_array 23 = .ok (.aload_n 0, 1) := by decide +kernel
theorem dX12_array_24 : decode cX12_array 24 = .ok (.getfield 113, 3) := by decide +kernel
theorem dX12_array_27 : decode cX12_array 27 = .ok (.iload_n 1, 1) := by decide +kernel
theorem dX12_array_28 : decode cX12_array 28 = .ok (.iaload, 1) := by decide +kernel
theorem dX12_array_29 : decode cX12_array 29 = .ok (.iastore, 1) := by decide +kernel
theorem dX12_array_30 : decode cX12_array 30 = .ok (.iload_n 3, 1) := by decide +kernel
theorem dX12_array_31 : decode cX12_array 31 = .ok (.invokestatic 155, 3) := by decide +kernel
theorem dX12_array_34 : decode cX12_array 34 = .ok (.ireturn, 1) := by decide +kernel
theorem dX12_element_0 : decode cX12_element 0 = .ok (.aload_n 0, 1) := by decide +kernel
theorem dX12_element_1 : decode cX12_element 1 = .ok (.getfield 107, 3) := by decide +kernel
theorem dX12_element_4 : decode cX12_element 4 = .ok (.iload_n 2, 1) := by decide +kernel
theorem dX12_element_5 : decode cX12_element 5 = .ok (.baload, 1) := by decide +kernel
theorem dX12_element_6 : decode cX12_element 6 = .ok (.ifCond .eq 4, 3) := by decide +kernel
theorem dX12_element_9 : decode cX12_element 9 = .ok (.return_, 1) := by decide +kernel
theorem dX12_element_10 : decode cX12_element 10 = .ok (.aload_n 0, 1) := by decide +kernel
theorem dX12_element_11 : decode cX12_element 11 = .ok (.getfield 107, 3) := by decide +kernel
theorem dX12_element_14 : decode cX12_element 14 = .ok (.iload_n 2, 1) := by decide +kernel
theorem dX12_element_15 : decode cX12_element 15 = .ok (.iconst 1, 1) := by decide +kernel
theorem dX12_element_16 : decode cX12_element 16 = .ok (.bastore, 1) := by decide +kernel
theorem dX12_element_17 : decode cX12_element 17 = .ok (.aload_n 0, 1) := by decide +kernel
theorem dX12_element_18 : decode cX12_element 18 = .ok (.getfield 104, 3) := by decide +kernel
theorem dX12_element_21 : decode cX12_element 21 = .ok (.iload_n 2, 1) := by decide +kernel
theorem dX12_element_22 : decode cX12_element 22 = .ok (.iaload, 1) := by decide +kernel
theorem dX12_element_23 : decode cX12_element 23 = .ok (.istore 4, 2) := by decide +kernel
theorem dX12_element_25 : decode cX12_element 25 = .ok (.aload_n 0, 1) := by decide +kernel
theorem dX12_element_26 : decode cX12_element 26 = .ok (.getfield 101, 3) := by decide +kernel
theorem dX12_element_29 : decode cX12_element 29 = .ok (.iload_n 2, 1) := by decide +kernel
theorem dX12_element_30 : decode cX12_element 30 = .ok (.iload_n 3, 1) := by decide +kernel
theorem dX12_element_31 : decode cX12_element 31 = .ok (.iastore, 1) := by decide +kernel
theorem dX12_element_32 : decode cX12_element 32 = .ok (.iload_n 1, 1) := by decide +kernel
theorem dX12_element_33 : decode cX12_element 33 = .ok (.iconst 5, 1) := by decide +kernel
theorem dX12_element_34 : decode cX12_element 34 = .ok (.if_icmp .eq 9, 3) := by decide +kernel
theorem dX12_element_37 : decode cX12_element 37 = .ok (.iload_n 1, 1) := by decide +kernel
theorem dX12_element_38 : decode cX12_element 38 = .ok (.bipush 6, 2) := by decide +kernel
theorem dX12_element_40 : decode cX12_element 40 = .ok (.if_icmp .ne 46, 3) := by decide +kernel
theorem dX12_element_43 : decode cX12_element 43 = .ok (.aload_n 0, 1) := by decide +kernel
theorem dX12_element_44 : decode cX12_element 44 = .ok (.iconst 5, 1) := by decide +kernel
theorem dX12_element_45 : decode cX12_element 45 = .ok (.invokevirtual 148, 3) := by decide +kernel
theorem dX12_element_48 : decode cX12_element 48 = .ok (.istore 5, 2) := by decide +kernel
theorem dX12_element_50 : decode cX12_element 50 = .ok (.aload_n 0, 1) := by decide +kernel
theorem dX12_element_51 : decode cX12_element 51 = .ok (.getfield 29, 3) := by decide +kernel
theorem dX12_element_54 : decode cX12_element 54 = .ok (.iload 5, 2) := by decide +kernel
theorem dX12_element_56 : decode cX12_element 56 = .ok (.iload_n 1, 1) := by decide +kernel
theorem dX12_element_57 : decode cX12_element 57 = .ok (.iconst 5, 1) := by decide +kernel
theorem dX12_element_58 : decode cX12_element 58 = .ok (.if_icmp .ne 7, 3) := by decide +kernel
theorem dX12_element_61 : decode cX12_element 61 = .ok (.iconst 1, 1) := by decide +kernel
theorem dX12_element_62 : decode cX12_element 62 = .ok (.goto 4, 3) := by decide +kernel
theorem dX12_element_65 : decode cX12_element 65 = .ok (.iconst 0, 1) := by decide +kernel
theorem dX12_element_66 : decode cX12_element 66 = .ok (.iastore, 1) := by decide +kernel
theorem dX12_element_67 : decode cX12_element 67 = .ok (.aload_n 0, 1) := by decide +kernel
theorem dX12_element_68 : decode cX12_element 68 = .ok (.getfield 32, 3) := by decide +kernel
theorem dX12_element_71 : decode cX12_element 71 = .ok (.iload 5, 2) := by decide +kernel
theorem dX12_element_73 : decode cX12_element 73 = .ok (.iload_n 3, 1) := by decide +kernel
theorem dX12_element_74 : decode cX12_element 74 = .ok (.iastore, 1) := by decide +kernel
theorem dX12_element_75 : decode cX12_element 75 = .ok (.aload_n 0, 1) := by decide +kernel
theorem dX12_element_76 : decode cX12_element 76 = .ok (.getfield 101, 3) := by decide +kernel
theorem dX12_element_79 : decode cX12_element 79 = .ok (.iload_n 2, 1) := by decide +kernel
theorem dX12_element_80 : decode cX12_element 80 = .ok (.iload 5, 2) := by decide +kernel
theorem dX12_element_82 : decode cX12_element 82 = .ok (.invokestatic 155, 3) := by decide +kernel
theorem dX12_element_85 : decode cX12_element 85 = .ok (.iastore, 1) := by decide +kernel
theorem dX12_element_86 : decode cX12_element 86 = .ok (.aload_n 0, 1) := by decide +kernel
theorem dX12_element_87 : decode cX12_element 87 = .ok (.getfield 116, 3) := by decide +kernel
theorem dX12_element_90 : decode cX12_element 90 = .ok (.iload 4, 2) := by decide +kernel
theorem dX12_element_92 : decode cX12_element 92 = .ok (.dup2, 1) := by decide +kernel
theorem dX12_element_93 : decode cX12_element 93 = .ok (.iaload, 1) := by decide +kernel
theorem dX12_element_94 : decode cX12_element 94 = .ok (.iconst 1, 1) := by decide +kernel
theorem dX12_element_95 : decode cX12_element 95 = .ok (.isub, 1) := by decide +kernel
theorem dX12_element_96 : decode cX12_element 96 = .ok (.iastore, 1) := by decide +kernel
theorem dX12_element_97 : decode cX12_element 97 = .ok (.aload_n 0, 1) := by decide +kernel
theorem dX12_element_98 : decode cX12_element 98 = .ok (.getfield 116, 3) := by decide +kernel
theorem dX12_element_101 : decode cX12_element 101 = .ok (.iload 4, 2) := by decide +kernel
theorem dX12_element_103 : decode cX12_element 103 = .ok (.iaload, 1) := by decide +kernel
theorem dX12_element_104 : decode cX12_element 104 = .ok (.ifCond .ne 20, 3) := by decide +kernel
theorem dX12_element_107 : decode cX12_element 107 = .ok (.aload_n 0, 1) := by decide +kernel
theorem dX12_element_108 : decode cX12_element 108 = .ok (.iload 4, 2) := by decide +kernel
theorem dX12_element_110 : decode cX12_element 110 = .ok (.iload_n 1, 1) := by decide +kernel
theorem dX12_element_111 : decode cX12_element 111 = .ok (.bipush 7, 2) := by decide +kernel
theorem dX12_element_113 : decode cX12_element 113 = .ok (.if_icmp .ne 7, 3) := by decide +kernel
theorem dX12_element_116 : decode cX12_element 116 = .ok (.iconst 1, 1) := by decide +kernel
theorem dX12_element_117 : decode cX12_element 117 = .ok (.goto 4, 3) := by decide +kernel
theorem dX12_element_120 : decode cX12_element 120 = .ok (.iconst 0, 1) := by decide +kernel
theorem dX12_element_121 : decode cX12_element 121 = .ok (.invokevirtual 224, 3) := by decide +kernel
theorem dX12_element_124 : decode cX12_element 124 = .ok (.return_, 1) := by decide +kernel
theorem dX12_finish_0 : decode cX12_finish 0 = .ok (.iload_n 2, 1) := by decide +kernel
theorem dX12_finish_1 : decode cX12_finish 1 = .ok (.ifCond .eq 31, 3) := by decide +kernel
theorem dX12_finish_4 : decode cX12_finish 4 = .ok (.aload_n 0, 1) := by decide +kernel
theorem dX12_finish_5 : decode cX12_finish 5 = .ok (.iload_n 1, 1) := by decide +kernel
theorem dX12_finish_6 : decode cX12_finish 6 = .ok (.iconst 3, 1) := by decide +kernel
theorem dX12_finish_7 : decode cX12_finish 7 = .ok (.invokevirtual 228, 3) := by decide +kernel
theorem dX12_finish_10 : decode cX12_finish 10 = .ok (.istore_n 3, 1) := by decide +kernel
theorem dX12_finish_11 : decode cX12_finish 11 = .ok (.aload_n 0, 1) := by decide +kernel
theorem dX12_finish_12 : decode cX12_finish 12 = .ok (.iload_n 1, 1) := by decide +kernel
theorem dX12_finish_13 : decode cX12_finish 13 = .ok (.iconst 4, 1) := by decide +kernel
theorem dX12_finish_14 : decode cX12_finish 14 = .ok (.invokevirtual 228, 3) := by decide +kernel
theorem dX12_finish_17 : decode cX12_finish 17 = .ok (.pop, 1) := by decide +kernel
theorem dX12_finish_18 : decode cX12_finish 18 = .ok (.aload_n 0, 1) := by decide +kernel
theorem dX12_finish_19 : decode cX12_finish 19 = .ok (.aload_n 0, 1) := by decide +kernel
theorem dX12_finish_20 : decode cX12_finish 20 = .ok (.getfield 119, 3) := by decide +kernel
theorem dX12_finish_23 : decode cX12_finish 23 = .ok (.iload_n 1, 1) := by decide +kernel
theorem dX12_finish_24 : decode cX12_finish 24 = .ok (.iaload, 1) := by decide +kernel
theorem dX12_finish_25 : decode cX12_finish 25 = .ok (.iload_n 3, 1) := by decide +kernel
theorem dX12_finish_26 : decode cX12_finish 26 = .ok (.invokevirtual 197, 3) := by decide +kernel
theorem dX12_finish_29 : decode cX12_finish 29 = .ok (.goto 19, 3) := by decide +kernel
theorem dX12_finish_32 : decode cX12_finish 32 = .ok (.aload_n 0, 1) := by decide +kernel
theorem dX12_finish_33 : decode cX12_finish 33 = .ok (.aload_n 0, 1) := by decide +kernel
theorem dX12_finish_34 : decode cX12_finish 34 = .ok (.getfield 119, 3) := by decide +kernel
theorem dX12_finish_37 : decode cX12_finish 37 = .ok (.iload_n 1, 1) := by decide +kernel
theorem dX12_finish_38 : decode cX12_finish 38 = .ok (.iaload, 1) := by decide +kernel
theorem dX12_finish_39 : decode cX12_finish 39 = .ok (.aload_n 0, 1) := by decide +kernel
theorem dX12_finish_40 : decode cX12_finish 40 = .ok (.iload_n 1, 1) := by decide +kernel
theorem dX12_finish_41 : decode cX12_finish 41 = .ok (.iconst 4, 1) := by decide +kernel
theorem dX12_finish_42 : decode cX12_finish 42 = .ok (.invokevirtual 228, 3) := by decide +kernel
theorem dX12_finish_45 : decode cX12_finish 45 = .ok (.invokevirtual 183, 3) := by decide +kernel
theorem dX12_finish_48 : decode cX12_finish 48 = .ok (.return_, 1) := by decide +kernel
theorem dX12_job_0 : decode cX12_job 0 = .ok (.aload_n 0, 1) := by decide +kernel
theorem dX12_job_1 : decode cX12_job 1 = .ok (.getfield 231, 3) := by decide +kernel
theorem dX12_job_4 : decode cX12_job 4 = .ok (.istore_n 1, 1) := by decide +kernel
theorem dX12_job_5 : decode cX12_job 5 = .ok (.aload_n 0, 1) := by decide +kernel
theorem dX12_job_6 : decode cX12_job 6 = .ok (.dup, 1) := by decide +kernel
theorem dX12_job_7 : decode cX12_job 7 = .ok (.getfield 231, 3) := by decide +kernel
theorem dX12_job_10 : decode cX12_job 10 = .ok (.iconst 1, 1) := by decide +kernel
theorem dX12_job_11 : decode cX12_job 11 = .ok (.iadd, 1) := by decide +kernel
theorem dX12_job_12 : decode cX12_job 12 = .ok (.putfield 231, 3) := by decide +kernel
theorem dX12_job_15 : decode cX12_job 15 = .ok (.aload_n 0, 1) := by decide +kernel
theorem dX12_job_16 : decode cX12_job 16 = .ok (.getfield 83, 3) := by decide +kernel
theorem dX12_job_19 : decode cX12_job 19 = .ok (.iload_n 1, 1) := by decide +kernel
theorem dX12_job_20 : decode cX12_job 20 = .ok (.baload, 1) := by decide +kernel
theorem dX12_job_21 : decode cX12_job 21 = .ok (.ifCond .eq 20, 3) := by decide +kernel
theorem dX12_job_24 : decode cX12_job 24 = .ok (.aload_n 0, 1) := by decide +kernel
theorem dX12_job_25 : decode cX12_job 25 = .ok (.aload_n 0, 1) := by decide +kernel
theorem dX12_job_26 : decode cX12_job 26 = .ok (.getfield 71, 3) := by decide +kernel
theorem dX12_job_29 : decode cX12_job 29 = .ok (.iload_n 1, 1) := by decide +kernel
theorem dX12_job_30 : decode cX12_job 30 = .ok (.iaload, 1) := by decide +kernel
theorem dX12_job_31 : decode cX12_job 31 = .ok (.aload_n 0, 1) := by decide +kernel
theorem dX12_job_32 : decode cX12_job 32 = .ok (.getfield 74, 3) := by decide +kernel
theorem dX12_job_35 : decode cX12_job 35 = .ok (.iload_n 1, 1) := by decide +kernel
theorem dX12_job_36 : decode cX12_job 36 = .ok (.iaload, 1) := by decide +kernel
theorem dX12_job_37 : decode cX12_job 37 = .ok (.invokevirtual 234, 3) := by decide +kernel
theorem dX12_job_40 : decode cX12_job 40 = .ok (.return_, 1) := by decide +kernel
theorem dX12_job_41 : decode cX12_job 41 = .ok (.aload_n 0, 1) := by decide +kernel
theorem dX12_job_42 : decode cX12_job 42 = .ok (.aload_n 0, 1) := by decide +kernel
theorem dX12_job_43 : decode cX12_job 43 = .ok (.getfield 80, 3) := by decide +kernel
theorem dX12_job_46 : decode cX12_job 46 = .ok (.iload_n 1, 1) := by decide +kernel
theorem dX12_job_47 : decode cX12_job 47 = .ok (.baload, 1) := by decide +kernel
theorem dX12_job_48 : decode cX12_job 48 = .ok (.putfield 193, 3) := by decide +kernel
theorem dX12_job_51 : decode cX12_job 51 = .ok (.aload_n 0, 1) := by decide +kernel
theorem dX12_job_52 : decode cX12_job 52 = .ok (.getfield 77, 3) := by decide +kernel
theorem dX12_job_55 : decode cX12_job 55 = .ok (.iload_n 1, 1) := by decide +kernel
theorem dX12_job_56 : decode cX12_job 56 = .ok (.iaload, 1) := by decide +kernel
theorem dX12_job_57 : decode cX12_job 57 = .ok (.istore_n 2, 1) := by decide +kernel
theorem dX12_job_58 : decode cX12_job 58 = .ok (.aload_n 0, 1) := by decide +kernel
theorem dX12_job_59 : decode cX12_job 59 = .ok (.getfield 68, 3) := by decide +kernel
theorem dX12_job_62 : decode cX12_job 62 = .ok (.iload_n 1, 1) := by decide +kernel
theorem dX12_job_63 : decode cX12_job 63 = .ok (.iaload, 1) := by decide +kernel
theorem dX12_job_64 : decode cX12_job 64 = .ok (.ifCond .eq 21, 3) := by decide +kernel
theorem dX12_job_67 : decode cX12_job 67 = .ok (.aload_n 0, 1) := by decide +kernel
theorem dX12_job_68 : decode cX12_job 68 = .ok (.aload_n 0, 1) := by decide +kernel
theorem dX12_job_69 : decode cX12_job 69 = .ok (.getfield 68, 3) := by decide +kernel
theorem dX12_job_72 : decode cX12_job 72 = .ok (.iload_n 1, 1) := by decide +kernel
theorem dX12_job_73 : decode cX12_job 73 = .ok (.iaload, 1) := by decide +kernel
theorem dX12_job_74 : decode cX12_job 74 = .ok (.aload_n 0, 1) := by decide +kernel
theorem dX12_job_75 : decode cX12_job 75 = .ok (.getfield 71, 3) := by decide +kernel
theorem dX12_job_78 : decode cX12_job 78 = .ok (.iload_n 1, 1) := by decide +kernel
theorem dX12_job_79 : decode cX12_job 79 = .ok (.iaload, 1) := by decide +kernel
theorem dX12_job_80 : decode cX12_job 80 = .ok (.iload_n 2, 1) := by decide +kernel
theorem dX12_job_81 : decode cX12_job 81 = .ok (.invokevirtual 237, 3) := by decide +kernel
theorem dX12_job_84 : decode cX12_job 84 = .ok (.istore_n 2, 1) := by decide +kernel
theorem dX12_job_85 : decode cX12_job 85 = .ok (.aload_n 0, 1) := by decide +kernel
theorem dX12_job_86 : decode cX12_job 86 = .ok (.getfield 74, 3) := by decide +kernel
theorem dX12_job_89 : decode cX12_job 89 = .ok (.iload_n 1, 1) := by decide +kernel
theorem dX12_job_90 : decode cX12_job 90 = .ok (.iaload, 1) := by decide +kernel
theorem dX12_job_91 : decode cX12_job 91 = .ok (.ifCond .ge 4, 3) := by decide +kernel
theorem dX12_job_94 : decode cX12_job 94 = .ok (.return_, 1) := by decide +kernel
theorem dX12_job_95 : decode cX12_job 95 = .ok (.aload_n 0, 1) := by decide +kernel
theorem dX12_job_96 : decode cX12_job 96 = .ok (.getfield 193, 3) := by decide +kernel
theorem dX12_job_99 : decode cX12_job 99 = .ok (.ifCond .eq 17, 3) := by decide +kernel
theorem dX12_job_102 : decode cX12_job 102 = .ok (.aload_n 0, 1) := by decide +kernel
theorem dX12_job_103 : decode cX12_job 103 = .ok (.aload_n 0, 1) := by decide +kernel
theorem dX12_job_104 : decode cX12_job 104 = .ok (.getfield 74, 3) := by decide +kernel
theorem dX12_job_107 : decode cX12_job 107 = .ok (.iload_n 1, 1) := by decide +kernel
theorem dX12_job_108 : decode cX12_job 108 = .ok (.iaload, 1) := by decide +kernel
theorem dX12_job_109 : decode cX12_job 109 = .ok (.iload_n 2, 1) := by decide +kernel
theorem dX12_job_110 : decode cX12_job 110 = .ok (.invokevirtual 197, 3) := by decide +kernel
theorem dX12_job_113 : decode cX12_job 113 = .ok (.goto 14, 3) := by decide +kernel
theorem dX12_job_116 : decode cX12_job 116 = .ok (.aload_n 0, 1) := by decide +kernel
theorem dX12_job_117 : decode cX12_job 117 = .ok (.aload_n 0, 1) := by decide +kernel
theorem dX12_job_118 : decode cX12_job 118 = .ok (.getfield 74, 3) := by decide +kernel
theorem dX12_job_121 : decode cX12_job 121 = .ok (.iload_n 1, 1) := by decide +kernel
theorem dX12_job_122 : decode cX12_job 122 = .ok (.iaload, 1) := by decide +kernel
theorem dX12_job_123 : decode cX12_job 123 = .ok (.iload_n 2, 1) := by decide +kernel
theorem dX12_job_124 : decode cX12_job 124 = .ok (.invokevirtual 183, 3) := by decide +kernel
theorem dX12_job_127 : decode cX12_job 127 = .ok (.return_, 1) := by decide +kernel
theorem dX12_thenJob_0 : decode cX12_thenJob 0 = .ok (.aload_n 0, 1) := by decide +kernel
theorem dX12_thenJob_1 : decode cX12_thenJob 1 = .ok (.iload_n 2, 1) := by decide +kernel
theorem dX12_thenJob_2 : decode cX12_thenJob 2 = .ok (.invokevirtual 152, 3) := by decide +kernel
theorem dX12_thenJob_5 : decode cX12_thenJob 5 = .ok (.istore_n 3, 1) := by decide +kernel
theorem dX12_thenJob_6 : decode cX12_thenJob 6 = .ok (.aload_n 0, 1) := by decide +kernel
theorem dX12_thenJob_7 : decode cX12_thenJob 7 = .ok (.getfield 7, 3) := by decide +kernel
theorem dX12_thenJob_10 : decode cX12_thenJob 10 = .ok (.iload_n 1, 1) := by decide +kernel
theorem dX12_thenJob_11 : decode cX12_thenJob 11 = .ok (.iaload, 1) := by decide +kernel
theorem dX12_thenJob_12 : decode cX12_thenJob 12 = .ok (.ifCond .ne 14, 3) := by decide +kernel
theorem dX12_thenJob_15 : decode cX12_thenJob 15 = .ok (.aload_n 0, 1) := by decide +kernel
theorem dX12_thenJob_16 : decode cX12_thenJob 16 = .ok (.iload_n 1, 1) := by decide +kernel
theorem dX12_thenJob_17 : decode cX12_thenJob 17 = .ok (.iconst 2, 1) := by decide +kernel
theorem dX12_thenJob_18 : decode cX12_thenJob 18 = .ok (.iload_n 3, 1) := by decide +kernel
theorem dX12_thenJob_19 : decode cX12_thenJob 19 = .ok (.iconst 3, 1) := by decide +kernel
theorem dX12_thenJob_20 : decode cX12_thenJob 20 = .ok (.iload_n 3, 1) := by decide +kernel
theorem dX12_thenJob_21 : decode cX12_thenJob 21 = .ok (.invokevirtual 220, 3) := by decide +kernel
theorem dX12_thenJob_24 : decode cX12_thenJob 24 = .ok (.pop, 1) := by decide +kernel
theorem dX12_thenJob_25 : decode cX12_thenJob 25 = .ok (.return_, 1) := by decide +kernel
theorem dX12_thenJob_26 : decode cX12_thenJob 26 = .ok (.aload_n 0, 1) := by decide +kernel
theorem dX12_thenJob_27 : decode cX12_thenJob 27 = .ok (.iload_n 1, 1) := by decide +kernel
theorem dX12_thenJob_28 : decode cX12_thenJob 28 = .ok (.invokestatic 155, 3) := by decide +kernel
theorem dX12_thenJob_31 : decode cX12_thenJob 31 = .ok (.iconst (-1), 1) := by decide +kernel
theorem dX12_thenJob_32 : decode cX12_thenJob 32 = .ok (.invokevirtual 190, 3) := by decide +kernel
theorem dX12_thenJob_35 : decode cX12_thenJob 35 = .ok (.aload_n 0, 1) := by decide +kernel
theorem dX12_thenJob_36 : decode cX12_thenJob 36 = .ok (.iload_n 1, 1) := by decide +kernel
theorem dX12_thenJob_37 : decode cX12_thenJob 37 = .ok (.aload_n 0, 1) := by decide +kernel
theorem dX12_thenJob_38 : decode cX12_thenJob 38 = .ok (.getfield 32, 3) := by decide +kernel
theorem dX12_thenJob_41 : decode cX12_thenJob 41 = .ok (.iload_n 1, 1) := by decide +kernel
theorem dX12_thenJob_42 : decode cX12_thenJob 42 = .ok (.iaload, 1) := by decide +kernel
theorem dX12_thenJob_43 : decode cX12_thenJob 43 = .ok (.aload_n 0, 1) := by decide +kernel
theorem dX12_thenJob_44 : decode cX12_thenJob 44 = .ok (.getfield 35, 3) := by decide +kernel
theorem dX12_thenJob_47 : decode cX12_thenJob 47 = .ok (.iload_n 1, 1) := by decide +kernel
theorem dX12_thenJob_48 : decode cX12_thenJob 48 = .ok (.iaload, 1) := by decide +kernel
theorem dX12_thenJob_49 : decode cX12_thenJob 49 = .ok (.iload_n 3, 1) := by decide +kernel
theorem dX12_thenJob_50 : decode cX12_thenJob 50 = .ok (.invokevirtual 240, 3) := by decide +kernel
theorem dX12_thenJob_53 : decode cX12_thenJob 53 = .ok (.ifCond .ne 22, 3) := by decide +kernel
theorem dX12_thenJob_56 : decode cX12_thenJob 56 = .ok (.aload_n 0, 1) := by decide +kernel
theorem dX12_thenJob_57 : decode cX12_thenJob 57 = .ok (.iload_n 1, 1) := by decide +kernel
theorem dX12_thenJob_58 : decode cX12_thenJob 58 = .ok (.aload_n 0, 1) := by decide +kernel
theorem dX12_thenJob_59 : decode cX12_thenJob 59 = .ok (.getfield 38, 3) := by decide +kernel
theorem dX12_thenJob_62 : decode cX12_thenJob 62 = .ok (.iload_n 1, 1) := by decide +kernel
theorem dX12_thenJob_63 : decode cX12_thenJob 63 = .ok (.iaload, 1) := by decide +kernel
theorem dX12_thenJob_64 : decode cX12_thenJob 64 = .ok (.aload_n 0, 1) := by decide +kernel
theorem dX12_thenJob_65 : decode cX12_thenJob 65 = .ok (.getfield 41, 3) := by decide +kernel
theorem dX12_thenJob_68 : decode cX12_thenJob 68 = .ok (.iload_n 1, 1) := by decide +kernel
theorem dX12_thenJob_69 : decode cX12_thenJob 69 = .ok (.iaload, 1) := by decide +kernel
theorem dX12_thenJob_70 : decode cX12_thenJob 70 = .ok (.iload_n 3, 1) := by decide +kernel
theorem dX12_thenJob_71 : decode cX12_thenJob 71 = .ok (.invokevirtual 240, 3) := by decide +kernel
theorem dX12_thenJob_74 : decode cX12_thenJob 74 = .ok (.pop, 1) := by decide +kernel
theorem dX12_thenJob_75 : decode cX12_thenJob 75 = .ok (.return_, 1) := by decide +kernel
theorem dX12_does_0 : decode cX12_does 0 = .ok (.iload_n 2, 1) := by decide +kernel
theorem dX12_does_1 : decode cX12_does 1 = .ok (.iconst 1, 1) := by decide +kernel
theorem dX12_does_2 : decode cX12_does 2 = .ok (.if_icmp .ne 13, 3) := by decide +kernel
theorem dX12_does_5 : decode cX12_does 5 = .ok (.aload_n 0, 1) := by decide +kernel
theorem dX12_does_6 : decode cX12_does 6 = .ok (.iload 4, 2) := by decide +kernel
theorem dX12_does_8 : decode cX12_does 8 = .ok (.iload_n 3, 1) := by decide +kernel
theorem dX12_does_9 : decode cX12_does 9 = .ok (.invokevirtual 183, 3) := by decide +kernel
theorem dX12_does_12 : decode cX12_does 12 = .ok (.goto 46, 3) := by decide +kernel
theorem dX12_does_15 : decode cX12_does 15 = .ok (.iload_n 2, 1) := by decide +kernel
theorem dX12_does_16 : decode cX12_does 16 = .ok (.iconst 2, 1) := by decide +kernel
theorem dX12_does_17 : decode cX12_does 17 = .ok (.if_icmp .ne 13, 3) := by decide +kernel
theorem dX12_does_20 : decode cX12_does 20 = .ok (.aload_n 0, 1) := by decide +kernel
theorem dX12_does_21 : decode cX12_does 21 = .ok (.iload 4, 2) := by decide +kernel
theorem dX12_does_23 : decode cX12_does 23 = .ok (.iload_n 3, 1) := by decide +kernel
theorem dX12_does_24 : decode cX12_does 24 = .ok (.invokevirtual 197, 3) := by decide +kernel
theorem dX12_does_27 : decode cX12_does 27 = .ok (.goto 31, 3) := by decide +kernel
theorem dX12_does_30 : decode cX12_does 30 = .ok (.iload_n 2, 1) := by decide +kernel
theorem dX12_does_31 : decode cX12_does 31 = .ok (.iconst 3, 1) := by decide +kernel
theorem dX12_does_32 : decode cX12_does 32 = .ok (.if_icmp .ne 13, 3) := by decide +kernel
theorem dX12_does_35 : decode cX12_does 35 = .ok (.aload_n 0, 1) := by decide +kernel
theorem dX12_does_36 : decode cX12_does 36 = .ok (.iload 4, 2) := by decide +kernel
theorem dX12_does_38 : decode cX12_does 38 = .ok (.iload_n 3, 1) := by decide +kernel
theorem dX12_does_39 : decode cX12_does 39 = .ok (.invokevirtual 197, 3) := by decide +kernel
theorem dX12_does_42 : decode cX12_does 42 = .ok (.goto 16, 3) := by decide +kernel
theorem dX12_does_45 : decode cX12_does 45 = .ok (.iload_n 2, 1) := by decide +kernel
theorem dX12_does_46 : decode cX12_does 46 = .ok (.iconst 4, 1) := by decide +kernel
theorem dX12_does_47 : decode cX12_does 47 = .ok (.if_icmp .ne 11, 3) := by decide +kernel
theorem dX12_does_50 : decode cX12_does 50 = .ok (.aload_n 0, 1) := by decide +kernel
theorem dX12_does_51 : decode cX12_does 51 = .ok (.getfield 22, 3) := by decide +kernel
theorem dX12_does_54 : decode cX12_does 54 = .ok (.iload_n 1, 1) := by decide +kernel
theorem dX12_does_55 : decode cX12_does 55 = .ok (.iload 4, 2) := by decide +kernel
theorem dX12_does_57 : decode cX12_does 57 = .ok (.iastore, 1) := by decide +kernel
theorem dX12_does_58 : decode cX12_does 58 = .ok (.iload_n 2, 1) := by decide +kernel
theorem dX12_does_59 : decode cX12_does 59 = .ok (.iconst 3, 1) := by decide +kernel
theorem dX12_does_60 : decode cX12_does 60 = .ok (.if_icmp .ne 7, 3) := by decide +kernel
theorem dX12_does_63 : decode cX12_does 63 = .ok (.iconst 1, 1) := by decide +kernel
theorem dX12_does_64 : decode cX12_does 64 = .ok (.goto 4, 3) := by decide +kernel
theorem dX12_does_67 : decode cX12_does 67 = .ok (.iconst 0, 1) := by decide +kernel
theorem dX12_does_68 : decode cX12_does 68 = .ok (.ireturn, 1) := by decide +kernel
theorem dX12_goOn_0 : decode cX12_goOn 0 = .ok (.aload_n 0, 1) := by decide +kernel
theorem dX12_goOn_1 : decode cX12_goOn 1 = .ok (.getfield 128, 3) := by decide +kernel
theorem dX12_goOn_4 : decode cX12_goOn 4 = .ok (.iload_n 1, 1) := by decide +kernel
theorem dX12_goOn_5 : decode cX12_goOn 5 = .ok (.iaload, 1) := by decide +kernel
theorem dX12_goOn_6 : decode cX12_goOn 6 = .ok (.aload_n 0, 1) := by decide +kernel
theorem dX12_goOn_7 : decode cX12_goOn 7 = .ok (.getfield 113, 3) := by decide +kernel
theorem dX12_goOn_10 : decode cX12_goOn 10 = .ok (.iload_n 1, 1) := by decide +kernel
theorem dX12_goOn_11 : decode cX12_goOn 11 = .ok (.iaload, 1) := by decide +kernel
theorem dX12_goOn_12 : decode cX12_goOn 12 = .ok (.if_icmp .ne 20, 3) := by decide +kernel
theorem dX12_goOn_15 : decode cX12_goOn 15 = .ok (.aload_n 0, 1) := by decide +kernel
theorem dX12_goOn_16 : decode cX12_goOn 16 = .ok (.aload_n 0, 1) := by decide +kernel
theorem dX12_goOn_17 : decode cX12_goOn 17 = .ok (.getfield 119, 3) := by decide +kernel
theorem dX12_goOn_20 : decode cX12_goOn 20 = .ok (.iload_n 1, 1) := by decide +kernel
theorem dX12_goOn_21 : decode cX12_goOn 21 = .ok (.iaload, 1) := by decide +kernel
theorem dX12_goOn_22 : decode cX12_goOn 22 = .ok (.aload_n 0, 1) := by decide +kernel
theorem dX12_goOn_23 : decode cX12_goOn 23 = .ok (.getfield 122, 3) := by decide +kernel
theorem dX12_goOn_26 : decode cX12_goOn 26 = .ok (.iload_n 1, 1) := by decide +kernel
theorem dX12_goOn_27 : decode cX12_goOn 27 = .ok (.iaload, 1) := by decide +kernel
theorem dX12_goOn_28 : decode cX12_goOn 28 = .ok (.invokevirtual 183, 3) := by decide +kernel
theorem dX12_goOn_31 : decode cX12_goOn 31 = .ok (.return_, 1) := by decide +kernel
theorem dX12_goOn_32 : decode cX12_goOn 32 = .ok (.aload_n 0, 1) := by decide +kernel
theorem dX12_goOn_33 : decode cX12_goOn 33 = .ok (.getfield 101, 3) := by decide +kernel
theorem dX12_goOn_36 : decode cX12_goOn 36 = .ok (.aload_n 0, 1) := by decide +kernel
theorem dX12_goOn_37 : decode cX12_goOn 37 = .ok (.getfield 110, 3) := by decide +kernel
theorem dX12_goOn_40 : decode cX12_goOn 40 = .ok (.iload_n 1, 1) := by decide +kernel
theorem dX12_goOn_41 : decode cX12_goOn 41 = .ok (.iaload, 1) := by decide +kernel
theorem dX12_goOn_42 : decode cX12_goOn 42 = .ok (.aload_n 0, 1) := by decide +kernel
theorem dX12_goOn_43 : decode cX12_goOn 43 = .ok (.getfield 128, 3) := by decide +kernel
theorem dX12_goOn_46 : decode cX12_goOn 46 = .ok (.iload_n 1, 1) := by decide +kernel
theorem dX12_goOn_47 : decode cX12_goOn 47 = .ok (.iaload, 1) := by decide +kernel
theorem dX12_goOn_48 : decode cX12_goOn 48 = .ok (.iadd, 1) := by decide +kernel
theorem dX12_goOn_49 : decode cX12_goOn 49 = .ok (.iaload, 1) := by decide +kernel
theorem dX12_goOn_50 : decode cX12_goOn 50 = .ok (.istore_n 2, 1) := by decide +kernel
theorem dX12_goOn_51 : decode cX12_goOn 51 = .ok (.aload_n 0, 1) := by decide +kernel
theorem dX12_goOn_52 : decode cX12_goOn 52 = .ok (.getfield 128, 3) := by decide +kernel
theorem dX12_goOn_55 : decode cX12_goOn 55 = .ok (.iload_n 1, 1) := by decide +kernel
theorem dX12_goOn_56 : decode cX12_goOn 56 = .ok (.dup2, 1) := by decide +kernel
theorem dX12_goOn_57 : decode cX12_goOn 57 = .ok (.iaload, 1) := by decide +kernel
theorem dX12_goOn_58 : decode cX12_goOn 58 = .ok (.iconst 1, 1) := by decide +kernel
theorem dX12_goOn_59 : decode cX12_goOn 59 = .ok (.iadd, 1) := by decide +kernel
theorem dX12_goOn_60 : decode cX12_goOn 60 = .ok (.iastore, 1) := by decide +kernel
theorem dX12_goOn_61 : decode cX12_goOn 61 = .ok (.aload_n 0, 1) := by decide +kernel
theorem dX12_goOn_62 : decode cX12_goOn 62 = .ok (.aload_n 0, 1) := by decide +kernel
theorem dX12_goOn_63 : decode cX12_goOn 63 = .ok (.iload_n 2, 1) := by decide +kernel
theorem dX12_goOn_64 : decode cX12_goOn 64 = .ok (.invokevirtual 214, 3) := by decide +kernel
theorem dX12_goOn_67 : decode cX12_goOn 67 = .ok (.bipush 12, 2) := by decide +kernel
theorem dX12_goOn_69 : decode cX12_goOn 69 = .ok (.iload_n 1, 1) := by decide +kernel
theorem dX12_goOn_70 : decode cX12_goOn 70 = .ok (.bipush 13, 2) := by decide +kernel
theorem dX12_goOn_72 : decode cX12_goOn 72 = .ok (.iload_n 1, 1) := by decide +kernel
theorem dX12_goOn_73 : decode cX12_goOn 73 = .ok (.iconst (-1), 1) := by decide +kernel
theorem dX12_goOn_74 : decode cX12_goOn 74 = .ok (.invokevirtual 175, 3) := by decide +kernel
theorem dX12_goOn_77 : decode cX12_goOn 77 = .ok (.return_, 1) := by decide +kernel
theorem dX12_resume_0 : decode cX12_resume 0 = .ok (.aload_n 0, 1) := by decide +kernel
theorem dX12_resume_1 : decode cX12_resume 1 = .ok (.getfield 125, 3) := by decide +kernel
theorem dX12_resume_4 : decode cX12_resume 4 = .ok (.iload_n 1, 1) := by decide +kernel
theorem dX12_resume_5 : decode cX12_resume 5 = .ok (.iaload, 1) := by decide +kernel
theorem dX12_resume_6 : decode cX12_resume 6 = .ok (.ifCond .lt 39, 3) := by decide +kernel
theorem dX12_resume_9 : decode cX12_resume 9 = .ok (.aload_n 0, 1) := by decide +kernel
theorem dX12_resume_10 : decode cX12_resume 10 = .ok (.aload_n 0, 1) := by decide +kernel
theorem dX12_resume_11 : decode cX12_resume 11 = .ok (.getfield 125, 3) := by decide +kernel
theorem dX12_resume_14 : decode cX12_resume 14 = .ok (.iload_n 1, 1) := by decide +kernel
theorem dX12_resume_15 : decode cX12_resume 15 = .ok (.iaload, 1) := by decide +kernel
theorem dX12_resume_16 : decode cX12_resume 16 = .ok (.iload_n 2, 1) := by decide +kernel
theorem dX12_resume_17 : decode cX12_resume 17 = .ok (.invokevirtual 200, 3) := by decide +kernel
theorem dX12_resume_20 : decode cX12_resume 20 = .ok (.istore_n 3, 1) := by decide +kernel
theorem dX12_resume_21 : decode cX12_resume 21 = .ok (.aload_n 0, 1) := by decide +kernel
theorem dX12_resume_22 : decode cX12_resume 22 = .ok (.getfield 193, 3) := by decide +kernel
theorem dX12_resume_25 : decode cX12_resume 25 = .ok (.ifCond .eq 20, 3) := by decide +kernel
theorem dX12_resume_28 : decode cX12_resume 28 = .ok (.aload_n 0, 1) := by decide +kernel
theorem dX12_resume_29 : decode cX12_resume 29 = .ok (.iconst 0, 1) := by decide +kernel
theorem dX12_resume_30 : decode cX12_resume 30 = .ok (.putfield 193, 3) := by decide +kernel
theorem dX12_resume_33 : decode cX12_resume 33 = .ok (.aload_n 0, 1) := by decide +kernel
theorem dX12_resume_34 : decode cX12_resume 34 = .ok (.aload_n 0, 1) := by decide +kernel
theorem dX12_resume_35 : decode cX12_resume 35 = .ok (.getfield 119, 3) := by decide +kernel
theorem dX12_resume_38 : decode cX12_resume 38 = .ok (.iload_n 1, 1) := by decide +kernel
theorem dX12_resume_39 : decode cX12_resume 39 = .ok (.iaload, 1) := by decide +kernel
theorem dX12_resume_40 : decode cX12_resume 40 = .ok (.iload_n 3, 1) := by decide +kernel
theorem dX12_resume_41 : decode cX12_resume 41 = .ok (.invokevirtual 197, 3) := by decide +kernel
theorem dX12_resume_44 : decode cX12_resume 44 = .ok (.return_, 1) := by decide +kernel
theorem dX12_resume_45 : decode cX12_resume 45 = .ok (.aload_n 0, 1) := by decide +kernel
theorem dX12_resume_46 : decode cX12_resume 46 = .ok (.iload_n 1, 1) := by decide +kernel
theorem dX12_resume_47 : decode cX12_resume 47 = .ok (.invokevirtual 244, 3) := by decide +kernel
theorem dX12_resume_50 : decode cX12_resume 50 = .ok (.aload_n 0, 1) := by decide +kernel
theorem dX12_resume_51 : decode cX12_resume 51 = .ok (.iconst 0, 1) := by decide +kernel
theorem dX12_resume_52 : decode cX12_resume 52 = .ok (.putfield 193, 3) := by decide +kernel
theorem dX12_resume_55 : decode cX12_resume 55 = .ok (.return_, 1) := by decide +kernel
theorem dX12_group_0 : decode cX12_group 0 = .ok (.aload_n 0, 1) := by decide +kernel
theorem dX12_group_1 : decode cX12_group 1 = .ok (.getfield 248, 3) := by decide +kernel
theorem dX12_group_4 : decode cX12_group 4 = .ok (.istore_n 1, 1) := by decide +kernel
theorem dX12_group_5 : decode cX12_group 5 = .ok (.aload_n 0, 1) := by decide +kernel
theorem dX12_group_6 : decode cX12_group 6 = .ok (.dup, 1) := by decide +kernel
theorem dX12_group_7 : decode cX12_group 7 = .ok (.getfield 248, 3) := by decide +kernel
theorem dX12_group_10 : decode cX12_group 10 = .ok (.iconst 1, 1) := by decide +kernel
theorem dX12_group_11 : decode cX12_group 11 = .ok (.iadd, 1) := by decide +kernel
theorem dX12_group_12 : decode cX12_group 12 = .ok (.putfield 248, 3) := by decide +kernel
theorem dX12_group_15 : decode cX12_group 15 = .ok (.aload_n 0, 1) := by decide +kernel
theorem dX12_group_16 : decode cX12_group 16 = .ok (.getfield 110, 3) := by decide +kernel
theorem dX12_group_19 : decode cX12_group 19 = .ok (.iload_n 1, 1) := by decide +kernel
theorem dX12_group_20 : decode cX12_group 20 = .ok (.aload_n 0, 1) := by decide +kernel
theorem dX12_group_21 : decode cX12_group 21 = .ok (.getfield 217, 3) := by decide +kernel
theorem dX12_group_24 : decode cX12_group 24 = .ok (.iastore, 1) := by decide +kernel
theorem dX12_group_25 : decode cX12_group 25 = .ok (.aload_n 0, 1) := by decide +kernel
theorem dX12_group_26 : decode cX12_group 26 = .ok (.getfield 113, 3) := by decide +kernel
theorem dX12_group_29 : decode cX12_group 29 = .ok (.iload_n 1, 1) := by decide +kernel
theorem dX12_group_30 : decode cX12_group 30 = .ok (.aload_n 0, 1) := by decide +kernel
theorem dX12_group_31 : decode cX12_group 31 = .ok (.getfield 251, 3) := by decide +kernel
theorem dX12_group_34 : decode cX12_group 34 = .ok (.iastore, 1) := by decide +kernel
theorem dX12_group_35 : decode cX12_group 35 = .ok (.iconst 0, 1) := by decide +kernel
theorem dX12_group_36 : decode cX12_group 36 = .ok (.istore_n 2, 1) := by decide +kernel
theorem dX12_group_37 : decode cX12_group 37 = .ok (.iload_n 2, 1) := by decide +kernel
theorem dX12_group_38 : decode cX12_group 38 = .ok (.aload_n 0, 1) := by decide +kernel
theorem dX12_group_39 : decode cX12_group 39 = .ok (.getfield 251, 3) := by decide +kernel
theorem dX12_group_42 : decode cX12_group 42 = .ok (.if_icmp .ge 54, 3) := by decide +kernel
theorem dX12_group_45 : decode cX12_group 45 = .ok (.aload_n 0, 1) := by decide +kernel
theorem dX12_group_46 : decode cX12_group 46 = .ok (.getfield 101, 3) := by decide +kernel
theorem dX12_group_49 : decode cX12_group 49 = .ok (.aload_n 0, 1) := by decide +kernel
theorem dX12_group_50 : decode cX12_group 50 = .ok (.getfield 217, 3) := by decide +kernel
theorem dX12_group_53 : decode cX12_group 53 = .ok (.aload_n 0, 1) := by decide +kernel
theorem dX12_group_54 : decode cX12_group 54 = .ok (.getfield 98, 3) := by decide +kernel
theorem dX12_group_57 : decode cX12_group 57 = .ok (.iload_n 2, 1) := by decide +kernel
theorem dX12_group_58 : decode cX12_group 58 = .ok (.iaload, 1) := by decide +kernel
theorem dX12_group_59 : decode cX12_group 59 = .ok (.iastore, 1) := by decide +kernel
theorem dX12_group_60 : decode cX12_group 60 = .ok (.aload_n 0, 1) := by decide +kernel
theorem dX12_group_61 : decode cX12_group 61 = .ok (.getfield 104, 3) := by decide +kernel
theorem dX12_group_64 : decode cX12_group 64 = .ok (.aload_n 0, 1) := by decide +kernel
theorem dX12_group_65 : decode cX12_group 65 = .ok (.getfield 217, 3) := by decide +kernel
theorem dX12_group_68 : decode cX12_group 68 = .ok (.iload_n 1, 1) := by decide +kernel
theorem dX12_group_69 : decode cX12_group 69 = .ok (.iastore, 1) := by decide +kernel
theorem dX12_group_70 : decode cX12_group 70 = .ok (.aload_n 0, 1) := by decide +kernel
theorem dX12_group_71 : decode cX12_group 71 = .ok (.getfield 107, 3) := by decide +kernel
theorem dX12_group_74 : decode cX12_group 74 = .ok (.aload_n 0, 1) := by decide +kernel
theorem dX12_group_75 : decode cX12_group 75 = .ok (.getfield 217, 3) := by decide +kernel
theorem dX12_group_78 : decode cX12_group 78 = .ok (.iconst 0, 1) := by decide +kernel
theorem dX12_group_79 : decode cX12_group 79 = .ok (.bastore, 1) := by decide +kernel
theorem dX12_group_80 : decode cX12_group 80 = .ok (.aload_n 0, 1) := by decide +kernel
theorem dX12_group_81 : decode cX12_group 81 = .ok (.dup, 1) := by decide +kernel
theorem dX12_group_82 : decode cX12_group 82 = .ok (.getfield 217, 3) := by decide +kernel
theorem dX12_group_85 : decode cX12_group 85 = .ok (.iconst 1, 1) := by decide +kernel
theorem dX12_group_86 : decode cX12_group 86 = .ok (.iadd, 1) := by decide +kernel
theorem dX12_group_87 : decode cX12_group 87 = .ok (.putfield 217, 3) := by decide +kernel
theorem dX12_group_90 : decode cX12_group 90 = .ok (.iinc 2 1, 3) := by decide +kernel
theorem dX12_group_93 : decode cX12_group 93 = .ok (.goto (-56), 3) := by decide +kernel
theorem dX12_group_96 : decode cX12_group 96 = .ok (.aload_n 0, 1) := by decide +kernel
theorem dX12_group_97 : decode cX12_group 97 = .ok (.iconst 0, 1) := by decide +kernel
theorem dX12_group_98 : decode cX12_group 98 = .ok (.putfield 251, 3) := by decide +kernel
theorem dX12_group_101 : decode cX12_group 101 = .ok (.iload_n 1, 1) := by decide +kernel
theorem dX12_group_102 : decode cX12_group 102 = .ok (.ireturn, 1) := by decide +kernel
theorem dX12_promise_0 : decode cX12_promise 0 = .ok (.aload_n 0, 1) := by decide +kernel
theorem dX12_promise_1 : decode cX12_promise 1 = .ok (.iconst 0, 1) := by decide +kernel
theorem dX12_promise_2 : decode cX12_promise 2 = .ok (.putfield 131, 3) := by decide +kernel
theorem dX12_promise_5 : decode cX12_promise 5 = .ok (.aload_n 0, 1) := by decide +kernel
theorem dX12_promise_6 : decode cX12_promise 6 = .ok (.bipush 8, 2) := by decide +kernel
theorem dX12_promise_8 : decode cX12_promise 8 = .ok (.invokevirtual 254, 3) := by decide +kernel
theorem dX12_promise_11 : decode cX12_promise 11 = .ok (.ifCond .eq 9, 3) := by decide +kernel
theorem dX12_promise_14 : decode cX12_promise 14 = .ok (.aload_n 0, 1) := by decide +kernel
theorem dX12_promise_15 : decode cX12_promise 15 = .ok (.iconst 1, 1) := by decide +kernel
theorem dX12_promise_16 : decode cX12_promise 16 = .ok (.invokevirtual 257, 3) := by decide +kernel
theorem dX12_promise_19 : decode cX12_promise 19 = .ok (.ireturn, 1) := by decide +kernel
theorem dX12_promise_20 : decode cX12_promise 20 = .ok (.aload_n 0, 1) := by decide +kernel
theorem dX12_promise_21 : decode cX12_promise 21 = .ok (.invokevirtual 171, 3) := by decide +kernel
theorem dX12_promise_24 : decode cX12_promise 24 = .ok (.istore_n 1, 1) := by decide +kernel
theorem dX12_promise_25 : decode cX12_promise 25 = .ok (.aload_n 0, 1) := by decide +kernel
theorem dX12_promise_26 : decode cX12_promise 26 = .ok (.getfield 44, 3) := by decide +kernel
theorem dX12_promise_29 : decode cX12_promise 29 = .ok (.iload_n 1, 1) := by decide +kernel
theorem dX12_promise_30 : decode cX12_promise 30 = .ok (.iaload, 1) := by decide +kernel
theorem dX12_promise_31 : decode cX12_promise 31 = .ok (.istore_n 2, 1) := by decide +kernel
theorem dX12_promise_32 : decode cX12_promise 32 = .ok (.aload_n 0, 1) := by decide +kernel
theorem dX12_promise_33 : decode cX12_promise 33 = .ok (.getfield 22, 3) := by decide +kernel
theorem dX12_promise_36 : decode cX12_promise 36 = .ok (.iload_n 2, 1) := by decide +kernel
theorem dX12_promise_37 : decode cX12_promise 37 = .ok (.iload_n 1, 1) := by decide +kernel
theorem dX12_promise_38 : decode cX12_promise 38 = .ok (.iastore, 1) := by decide +kernel
theorem dX12_promise_39 : decode cX12_promise 39 = .ok (.iload_n 2, 1) := by decide +kernel
theorem dX12_promise_40 : decode cX12_promise 40 = .ok (.invokestatic 155, 3) := by decide +kernel
theorem dX12_promise_43 : decode cX12_promise 43 = .ok (.ireturn, 1) := by decide +kernel
theorem dX12_isKept_0 : decode cX12_isKept 0 = .ok (.aload_n 0, 1) := by decide +kernel
theorem dX12_isKept_1 : decode cX12_isKept 1 = .ok (.iload_n 1, 1) := by decide +kernel
theorem dX12_isKept_2 : decode cX12_isKept 2 = .ok (.iconst 0, 1) := by decide +kernel
theorem dX12_isKept_3 : decode cX12_isKept 3 = .ok (.invokevirtual 179, 3) := by decide +kernel
theorem dX12_isKept_6 : decode cX12_isKept 6 = .ok (.ifCond .eq 19, 3) := by decide +kernel
theorem dX12_isKept_9 : decode cX12_isKept 9 = .ok (.aload_n 0, 1) := by decide +kernel
theorem dX12_isKept_10 : decode cX12_isKept 10 = .ok (.getfield 22, 3) := by decide +kernel
theorem dX12_isKept_13 : decode cX12_isKept 13 = .ok (.bipush (-2), 2) := by decide +kernel
theorem dX12_isKept_15 : decode cX12_isKept 15 = .ok (.iload_n 1, 1) := by decide +kernel
theorem dX12_isKept_16 : decode cX12_isKept 16 = .ok (.isub, 1) := by decide +kernel
theorem dX12_isKept_17 : decode cX12_isKept 17 = .ok (.iaload, 1) := by decide +kernel
theorem dX12_isKept_18 : decode cX12_isKept 18 = .ok (.ifCond .lt 7, 3) := by decide +kernel
theorem dX12_isKept_21 : decode cX12_isKept 21 = .ok (.iconst 1, 1) := by decide +kernel
theorem dX12_isKept_22 : decode cX12_isKept 22 = .ok (.goto 4, 3) := by decide +kernel
theorem dX12_isKept_25 : decode cX12_isKept 25 = .ok (.iconst 0, 1) := by decide +kernel
theorem dX12_isKept_26 : decode cX12_isKept 26 = .ok (.ireturn, 1) := by decide +kernel
theorem dX12_handler_0 : decode cX12_handler 0 = .ok (.aload_n 0, 1) := by decide +kernel
theorem dX12_handler_1 : decode cX12_handler 1 = .ok (.iconst 0, 1) := by decide +kernel
theorem dX12_handler_2 : decode cX12_handler 2 = .ok (.putfield 131, 3) := by decide +kernel
theorem dX12_handler_5 : decode cX12_handler 5 = .ok (.iload_n 1, 1) := by decide +kernel
theorem dX12_handler_6 : decode cX12_handler 6 = .ok (.ifCond .lt 29, 3) := by decide +kernel
theorem dX12_handler_9 : decode cX12_handler 9 = .ok (.iload_n 1, 1) := by decide +kernel
theorem dX12_handler_10 : decode cX12_handler 10 = .ok (.iconst 5, 1) := by decide +kernel
theorem dX12_handler_11 : decode cX12_handler 11 = .ok (.if_icmp .gt 24, 3) := by decide +kernel
theorem dX12_handler_14 : decode cX12_handler 14 = .ok (.aload_n 0, 1) := by decide +kernel
theorem dX12_handler_15 : decode cX12_handler 15 = .ok (.iload_n 2, 1) := by decide +kernel
theorem dX12_handler_16 : decode cX12_handler 16 = .ok (.invokevirtual 260, 3) := by decide +kernel
theorem dX12_handler_19 : decode cX12_handler 19 = .ok (.ifCond .eq 16, 3) := by decide +kernel
theorem dX12_handler_22 : decode cX12_handler 22 = .ok (.iload_n 1, 1) := by decide +kernel
theorem dX12_handler_23 : decode cX12_handler 23 = .ok (.iconst 3, 1) := by decide +kernel
theorem dX12_handler_24 : decode cX12_handler 24 = .ok (.if_icmp .le 17, 3) := by decide +kernel
theorem dX12_handler_27 : decode cX12_handler 27 = .ok (.aload_n 0, 1) := by decide +kernel
theorem dX12_handler_28 : decode cX12_handler 28 = .ok (.iload_n 2, 1) := by decide +kernel
theorem dX12_handler_29 : decode cX12_handler 29 = .ok (.invokevirtual 263, 3) := by decide +kernel
theorem dX12_handler_32 : decode cX12_handler 32 = .ok (.ifCond .ne 9, 3) := by decide +kernel
theorem dX12_handler_35 : decode cX12_handler 35 = .ok (.aload_n 0, 1) := by decide +kernel
theorem dX12_handler_36 : decode cX12_handler 36 = .ok (.iconst 1, 1) := by decide +kernel
theorem dX12_handler_37 : decode cX12_handler 37 = .ok (.invokevirtual 257, 3) := by decide +kernel
theorem dX12_handler_40 : decode cX12_handler 40 = .ok (.ireturn, 1) := by decide +kernel
theorem dX12_handler_41 : decode cX12_handler 41 = .ok (.aload_n 0, 1) := by decide +kernel
theorem dX12_handler_42 : decode cX12_handler 42 = .ok (.getfield 142, 3) := by decide +kernel
theorem dX12_handler_45 : decode cX12_handler 45 = .ok (.sipush 1000, 3) := by decide +kernel
theorem dX12_handler_48 : decode cX12_handler 48 = .ok (.if_icmp .ne 9, 3) := by decide +kernel
theorem dX12_handler_51 : decode cX12_handler 51 = .ok (.aload_n 0, 1) := by decide +kernel
theorem dX12_handler_52 : decode cX12_handler 52 = .ok (.iconst 2, 1) := by decide +kernel
theorem dX12_handler_53 : decode cX12_handler 53 = .ok (.invokevirtual 257, 3) := by decide +kernel
theorem dX12_handler_56 : decode cX12_handler 56 = .ok (.ireturn, 1) := by decide +kernel
theorem dX12_handler_57 : decode cX12_handler 57 = .ok (.aload_n 0, 1) := by decide +kernel
theorem dX12_handler_58 : decode cX12_handler 58 = .ok (.getfield 86, 3) := by decide +kernel
theorem dX12_handler_61 : decode cX12_handler 61 = .ok (.aload_n 0, 1) := by decide +kernel
theorem dX12_handler_62 : decode cX12_handler 62 = .ok (.getfield 142, 3) := by decide +kernel
theorem dX12_handler_65 : decode cX12_handler 65 = .ok (.iload_n 1, 1) := by decide +kernel
theorem dX12_handler_66 : decode cX12_handler 66 = .ok (.iastore, 1) := by decide +kernel
theorem dX12_handler_67 : decode cX12_handler 67 = .ok (.aload_n 0, 1) := by decide +kernel
theorem dX12_handler_68 : decode cX12_handler 68 = .ok (.getfield 89, 3) := by decide +kernel
theorem dX12_handler_71 : decode cX12_handler 71 = .ok (.aload_n 0, 1) := by decide +kernel
theorem dX12_handler_72 : decode cX12_handler 72 = .ok (.getfield 142, 3) := by decide +kernel
theorem dX12_handler_75 : decode cX12_handler 75 = .ok (.iload_n 2, 1) := by decide +kernel
theorem dX12_handler_76 : decode cX12_handler 76 = .ok (.iastore, 1) := by decide +kernel
theorem dX12_handler_77 : decode cX12_handler 77 = .ok (.aload_n 0, 1) := by decide +kernel
theorem dX12_handler_78 : decode cX12_handler 78 = .ok (.dup, 1) := by decide +kernel
theorem dX12_handler_79 : decode cX12_handler 79 = .ok (.getfield 142, 3) := by decide +kernel
theorem dX12_handler_82 : decode cX12_handler 82 = .ok (.iconst 1, 1) := by decide +kernel
theorem dX12_handler_83 : decode cX12_handler 83 = .ok (.iadd, 1) := by decide +kernel
theorem dX12_handler_84 : decode cX12_handler 84 = .ok (.putfield 142, 3) := by decide +kernel
theorem dX12_handler_87 : decode cX12_handler 87 = .ok (.aload_n 0, 1) := by decide +kernel
theorem dX12_handler_88 : decode cX12_handler 88 = .ok (.getfield 142, 3) := by decide +kernel
theorem dX12_handler_91 : decode cX12_handler 91 = .ok (.iconst 1, 1) := by decide +kernel
theorem dX12_handler_92 : decode cX12_handler 92 = .ok (.isub, 1) := by decide +kernel
theorem dX12_handler_93 : decode cX12_handler 93 = .ok (.ireturn, 1) := by decide +kernel
theorem dX12_thenable_0 : decode cX12_thenable 0 = .ok (.aload_n 0, 1) := by decide +kernel
theorem dX12_thenable_1 : decode cX12_thenable 1 = .ok (.iconst 0, 1) := by decide +kernel
theorem dX12_thenable_2 : decode cX12_thenable 2 = .ok (.putfield 131, 3) := by decide +kernel
theorem dX12_thenable_5 : decode cX12_thenable 5 = .ok (.iload_n 1, 1) := by decide +kernel
theorem dX12_thenable_6 : decode cX12_thenable 6 = .ok (.ifCond .lt 45, 3) := by decide +kernel
theorem dX12_thenable_9 : decode cX12_thenable 9 = .ok (.iload_n 1, 1) := by decide +kernel
theorem dX12_thenable_10 : decode cX12_thenable 10 = .ok (.iconst 2, 1) := by decide +kernel
theorem dX12_thenable_11 : decode cX12_thenable 11 = .ok (.if_icmp .gt 40, 3) := by decide +kernel
theorem dX12_thenable_14 : decode cX12_thenable 14 = .ok (.iload_n 2, 1) := by decide +kernel
theorem dX12_thenable_15 : decode cX12_thenable 15 = .ok (.ifCond .lt 36, 3) := by decide +kernel
theorem dX12_thenable_18 : decode cX12_thenable 18 = .ok (.iload_n 2, 1) := by decide +kernel
theorem dX12_thenable_19 : decode cX12_thenable 19 = .ok (.iconst 4, 1) := by decide +kernel
theorem dX12_thenable_20 : decode cX12_thenable 20 = .ok (.if_icmp .gt 31, 3) := by decide +kernel
theorem dX12_thenable_23 : decode cX12_thenable 23 = .ok (.iload 4, 2) := by decide +kernel
theorem dX12_thenable_25 : decode cX12_thenable 25 = .ok (.ifCond .lt 26, 3) := by decide +kernel
theorem dX12_thenable_28 : decode cX12_thenable 28 = .ok (.iload 4, 2) := by decide +kernel
theorem dX12_thenable_30 : decode cX12_thenable 30 = .ok (.iconst 4, 1) := by decide +kernel
theorem dX12_thenable_31 : decode cX12_thenable 31 = .ok (.if_icmp .gt 20, 3) := by decide +kernel
theorem dX12_thenable_34 : decode cX12_thenable 34 = .ok (.aload_n 0, 1) := by decide +kernel
theorem dX12_thenable_35 : decode cX12_thenable 35 = .ok (.iload_n 3, 1) := by decide +kernel
theorem dX12_thenable_36 : decode cX12_thenable 36 = .ok (.invokevirtual 260, 3) := by decide +kernel
theorem dX12_thenable_39 : decode cX12_thenable 39 = .ok (.ifCond .eq 12, 3) := by decide +kernel
theorem dX12_thenable_42 : decode cX12_thenable 42 = .ok (.aload_n 0, 1) := by decide +kernel
theorem dX12_thenable_43 : decode cX12_thenable 43 = .ok (.iload 5, 2) := by decide +kernel
theorem dX12_thenable_45 : decode cX12_thenable 45 = .ok (.invokevirtual 260, 3) := by decide +kernel
theorem dX12_thenable_48 : decode cX12_thenable 48 = .ok (.ifCond .ne 9, 3) := by decide +kernel
theorem dX12_thenable_51 : decode cX12_thenable 51 = .ok (.aload_n 0, 1) := by decide +kernel
theorem dX12_thenable_52 : decode cX12_thenable 52 = .ok (.iconst 1, 1) := by decide +kernel
theorem dX12_thenable_53 : decode cX12_thenable 53 = .ok (.invokevirtual 257, 3) := by decide +kernel
theorem dX12_thenable_56 : decode cX12_thenable 56 = .ok (.ireturn, 1) := by decide +kernel
theorem dX12_thenable_57 : decode cX12_thenable 57 = .ok (.aload_n 0, 1) := by decide +kernel
theorem dX12_thenable_58 : decode cX12_thenable 58 = .ok (.bipush 8, 2) := by decide +kernel
theorem dX12_thenable_60 : decode cX12_thenable 60 = .ok (.invokevirtual 254, 3) := by decide +kernel
theorem dX12_thenable_63 : decode cX12_thenable 63 = .ok (.ifCond .eq 9, 3) := by decide +kernel
theorem dX12_thenable_66 : decode cX12_thenable 66 = .ok (.aload_n 0, 1) := by decide +kernel
theorem dX12_thenable_67 : decode cX12_thenable 67 = .ok (.iconst 2, 1) := by decide +kernel
theorem dX12_thenable_68 : decode cX12_thenable 68 = .ok (.invokevirtual 257, 3) := by decide +kernel
theorem dX12_thenable_71 : decode cX12_thenable 71 = .ok (.ireturn, 1) := by decide +kernel
theorem dX12_thenable_72 : decode cX12_thenable 72 = .ok (.aload_n 0, 1) := by decide +kernel
theorem dX12_thenable_73 : decode cX12_thenable 73 = .ok (.iconst 1, 1) := by decide +kernel
theorem dX12_thenable_74 : decode cX12_thenable 74 = .ok (.invokevirtual 148, 3) := by decide +kernel
theorem dX12_thenable_77 : decode cX12_thenable 77 = .ok (.istore 6, 2) := by decide +kernel
theorem dX12_thenable_79 : decode cX12_thenable 79 = .ok (.aload_n 0, 1) := by decide +kernel
theorem dX12_thenable_80 : decode cX12_thenable 80 = .ok (.getfield 29, 3) := by decide +kernel
theorem dX12_thenable_83 : decode cX12_thenable 83 = .ok (.iload 6, 2) := by decide +kernel
theorem dX12_thenable_85 : decode cX12_thenable 85 = .ok (.iload_n 1, 1) := by decide +kernel
theorem dX12_thenable_86 : decode cX12_thenable 86 = .ok (.iastore, 1) := by decide +kernel
theorem dX12_thenable_87 : decode cX12_thenable 87 = .ok (.aload_n 0, 1) := by decide +kernel
theorem dX12_thenable_88 : decode cX12_thenable 88 = .ok (.getfield 32, 3) := by decide +kernel
theorem dX12_thenable_91 : decode cX12_thenable 91 = .ok (.iload 6, 2) := by decide +kernel
theorem dX12_thenable_93 : decode cX12_thenable 93 = .ok (.iload_n 2, 1) := by decide +kernel
theorem dX12_thenable_94 : decode cX12_thenable 94 = .ok (.iastore, 1) := by decide +kernel
theorem dX12_thenable_95 : decode cX12_thenable 95 = .ok (.aload_n 0, 1) := by decide +kernel
theorem dX12_thenable_96 : decode cX12_thenable 96 = .ok (.getfield 35, 3) := by decide +kernel
theorem dX12_thenable_99 : decode cX12_thenable 99 = .ok (.iload 6, 2) := by decide +kernel
theorem dX12_thenable_101 : decode cX12_thenable 101 = .ok (.iload_n 3, 1) := by decide +kernel
theorem dX12_thenable_102 : decode cX12_thenable 102 = .ok (.iastore, 1) := by decide +kernel
theorem dX12_thenable_103 : decode cX12_thenable 103 = .ok (.aload_n 0, 1) := by decide +kernel
theorem dX12_thenable_104 : decode cX12_thenable 104 = .ok (.getfield 38, 3) := by decide +kernel
theorem dX12_thenable_107 : decode cX12_thenable 107 = .ok (.iload 6, 2) := by decide +kernel
theorem dX12_thenable_109 : decode cX12_thenable 109 = .ok (.iload 4, 2) := by decide +kernel
theorem dX12_thenable_111 : decode cX12_thenable 111 = .ok (.iastore, 1) := by decide +kernel
theorem dX12_thenable_112 : decode cX12_thenable 112 = .ok (.aload_n 0, 1) := by decide +kernel
theorem dX12_thenable_113 : decode cX12_thenable 113 = .ok (.getfield 41, 3) := by decide +kernel
theorem dX12_thenable_116 : decode cX12_thenable 116 = .ok (.iload 6, 2) := by decide +kernel
theorem dX12_thenable_118 : decode cX12_thenable 118 = .ok (.iload 5, 2) := by decide +kernel
theorem dX12_thenable_120 : decode cX12_thenable 120 = .ok (.iastore, 1) := by decide +kernel
theorem dX12_thenable_121 : decode cX12_thenable 121 = .ok (.iload 6, 2) := by decide +kernel
theorem dX12_thenable_123 : decode cX12_thenable 123 = .ok (.invokestatic 155, 3) := by decide +kernel
theorem dX12_thenable_126 : decode cX12_thenable 126 = .ok (.ireturn, 1) := by decide +kernel
theorem dX12_settle__0 : decode cX12_settle_ 0 = .ok (.aload_n 0, 1) := by decide +kernel
theorem dX12_settle__1 : decode cX12_settle_ 1 = .ok (.aload_n 0, 1) := by decide +kernel
theorem dX12_settle__2 : decode cX12_settle_ 2 = .ok (.iload_n 1, 1) := by decide +kernel
theorem dX12_settle__3 : decode cX12_settle_ 3 = .ok (.invokevirtual 263, 3) := by decide +kernel
theorem dX12_settle__6 : decode cX12_settle_ 6 = .ok (.ifCond .eq 11, 3) := by decide +kernel
theorem dX12_settle__9 : decode cX12_settle_ 9 = .ok (.aload_n 0, 1) := by decide +kernel
theorem dX12_settle__10 : decode cX12_settle_ 10 = .ok (.iload_n 3, 1) := by decide +kernel
theorem dX12_settle__11 : decode cX12_settle_ 11 = .ok (.invokevirtual 260, 3) := by decide +kernel
theorem dX12_settle__14 : decode cX12_settle_ 14 = .ok (.ifCond .ne 7, 3) := by decide +kernel
theorem dX12_settle__17 : decode cX12_settle_ 17 = .ok (.iconst 1, 1) := by decide +kernel
theorem dX12_settle__18 : decode cX12_settle_ 18 = .ok (.goto 17, 3) := by decide +kernel
theorem dX12_settle__21 : decode cX12_settle_ 21 = .ok (.aload_n 0, 1) := by decide +kernel
theorem dX12_settle__22 : decode cX12_settle_ 22 = .ok (.bipush 8, 2) := by decide +kernel
theorem dX12_settle__24 : decode cX12_settle_ 24 = .ok (.invokevirtual 254, 3) := by decide +kernel
theorem dX12_settle__27 : decode cX12_settle_ 27 = .ok (.ifCond .eq 7, 3) := by decide +kernel
theorem dX12_settle__30 : decode cX12_settle_ 30 = .ok (.iconst 2, 1) := by decide +kernel
theorem dX12_settle__31 : decode cX12_settle_ 31 = .ok (.goto 4, 3) := by decide +kernel
theorem dX12_settle__34 : decode cX12_settle_ 34 = .ok (.iconst 0, 1) := by decide +kernel
theorem dX12_settle__35 : decode cX12_settle_ 35 = .ok (.putfield 131, 3) := by decide +kernel
theorem dX12_settle__38 : decode cX12_settle_ 38 = .ok (.aload_n 0, 1) := by decide +kernel
theorem dX12_settle__39 : decode cX12_settle_ 39 = .ok (.getfield 131, 3) := by decide +kernel
theorem dX12_settle__42 : decode cX12_settle_ 42 = .ok (.ifCond .le 5, 3) := by decide +kernel
theorem dX12_settle__45 : decode cX12_settle_ 45 = .ok (.iconst 0, 1) := by decide +kernel
theorem dX12_settle__46 : decode cX12_settle_ 46 = .ok (.ireturn, 1) := by decide +kernel
theorem dX12_settle__47 : decode cX12_settle_ 47 = .ok (.aload_n 0, 1) := by decide +kernel
theorem dX12_settle__48 : decode cX12_settle_ 48 = .ok (.getfield 22, 3) := by decide +kernel
theorem dX12_settle__51 : decode cX12_settle_ 51 = .ok (.bipush (-2), 2) := by decide +kernel
theorem dX12_settle__53 : decode cX12_settle_ 53 = .ok (.iload_n 1, 1) := by decide +kernel
theorem dX12_settle__54 : decode cX12_settle_ 54 = .ok (.isub, 1) := by decide +kernel
theorem dX12_settle__55 : decode cX12_settle_ 55 = .ok (.iaload, 1) := by decide +kernel
theorem dX12_settle__56 : decode cX12_settle_ 56 = .ok (.istore 4, 2) := by decide +kernel
theorem dX12_settle__58 : decode cX12_settle_ 58 = .ok (.aload_n 0, 1) := by decide +kernel
theorem dX12_settle__59 : decode cX12_settle_ 59 = .ok (.getfield 47, 3) := by decide +kernel
theorem dX12_settle__62 : decode cX12_settle_ 62 = .ok (.iload 4, 2) := by decide +kernel
theorem dX12_settle__64 : decode cX12_settle_ 64 = .ok (.baload, 1) := by decide +kernel
theorem dX12_settle__65 : decode cX12_settle_ 65 = .ok (.ifCond .ne 7, 3) := by decide +kernel
theorem dX12_settle__68 : decode cX12_settle_ 68 = .ok (.iconst 1, 1) := by decide +kernel
theorem dX12_settle__69 : decode cX12_settle_ 69 = .ok (.goto 4, 3) := by decide +kernel
theorem dX12_settle__72 : decode cX12_settle_ 72 = .ok (.iconst 0, 1) := by decide +kernel
theorem dX12_settle__73 : decode cX12_settle_ 73 = .ok (.istore 5, 2) := by decide +kernel
theorem dX12_settle__75 : decode cX12_settle_ 75 = .ok (.iload_n 2, 1) := by decide +kernel
theorem dX12_settle__76 : decode cX12_settle_ 76 = .ok (.ifCond .eq 13, 3) := by decide +kernel
theorem dX12_settle__79 : decode cX12_settle_ 79 = .ok (.aload_n 0, 1) := by decide +kernel
theorem dX12_settle__80 : decode cX12_settle_ 80 = .ok (.iload 4, 2) := by decide +kernel
theorem dX12_settle__82 : decode cX12_settle_ 82 = .ok (.iload_n 3, 1) := by decide +kernel
theorem dX12_settle__83 : decode cX12_settle_ 83 = .ok (.invokevirtual 197, 3) := by decide +kernel
theorem dX12_settle__86 : decode cX12_settle_ 86 = .ok (.goto 10, 3) := by decide +kernel
theorem dX12_settle__89 : decode cX12_settle_ 89 = .ok (.aload_n 0, 1) := by decide +kernel
theorem dX12_settle__90 : decode cX12_settle_ 90 = .ok (.iload 4, 2) := by decide +kernel
theorem dX12_settle__92 : decode cX12_settle_ 92 = .ok (.iload_n 3, 1) := by decide +kernel
theorem dX12_settle__93 : decode cX12_settle_ 93 = .ok (.invokevirtual 183, 3) := by decide +kernel
theorem dX12_settle__96 : decode cX12_settle_ 96 = .ok (.iload 5, 2) := by decide +kernel
theorem dX12_settle__98 : decode cX12_settle_ 98 = .ok (.ireturn, 1) := by decide +kernel
theorem dX12_later_0 : decode cX12_later 0 = .ok (.aload_n 0, 1) := by decide +kernel
theorem dX12_later_1 : decode cX12_later 1 = .ok (.iconst 0, 1) := by decide +kernel
theorem dX12_later_2 : decode cX12_later 2 = .ok (.putfield 131, 3) := by decide +kernel
theorem dX12_later_5 : decode cX12_later 5 = .ok (.aload_n 0, 1) := by decide +kernel
theorem dX12_later_6 : decode cX12_later 6 = .ok (.iload_n 1, 1) := by decide +kernel
theorem dX12_later_7 : decode cX12_later 7 = .ok (.iconst 1, 1) := by decide +kernel
theorem dX12_later_8 : decode cX12_later 8 = .ok (.invokevirtual 179, 3) := by decide +kernel
theorem dX12_later_11 : decode cX12_later 11 = .ok (.ifCond .eq 11, 3) := by decide +kernel
theorem dX12_later_14 : decode cX12_later 14 = .ok (.aload_n 0, 1) := by decide +kernel
theorem dX12_later_15 : decode cX12_later 15 = .ok (.iload_n 3, 1) := by decide +kernel
theorem dX12_later_16 : decode cX12_later 16 = .ok (.invokevirtual 260, 3) := by decide +kernel
theorem dX12_later_19 : decode cX12_later 19 = .ok (.ifCond .ne 9, 3) := by decide +kernel
theorem dX12_later_22 : decode cX12_later 22 = .ok (.aload_n 0, 1) := by decide +kernel
theorem dX12_later_23 : decode cX12_later 23 = .ok (.iconst 1, 1) := by decide +kernel
theorem dX12_later_24 : decode cX12_later 24 = .ok (.invokevirtual 257, 3) := by decide +kernel
theorem dX12_later_27 : decode cX12_later 27 = .ok (.ireturn, 1) := by decide +kernel
theorem dX12_later_28 : decode cX12_later 28 = .ok (.aload_n 0, 1) := by decide +kernel
theorem dX12_later_29 : decode cX12_later 29 = .ok (.bipush 8, 2) := by decide +kernel
theorem dX12_later_31 : decode cX12_later 31 = .ok (.invokevirtual 254, 3) := by decide +kernel
theorem dX12_later_34 : decode cX12_later 34 = .ok (.ifCond .eq 9, 3) := by decide +kernel
theorem dX12_later_37 : decode cX12_later 37 = .ok (.aload_n 0, 1) := by decide +kernel
theorem dX12_later_38 : decode cX12_later 38 = .ok (.iconst 2, 1) := by decide +kernel
theorem dX12_later_39 : decode cX12_later 39 = .ok (.invokevirtual 257, 3) := by decide +kernel
theorem dX12_later_42 : decode cX12_later 42 = .ok (.ireturn, 1) := by decide +kernel
theorem dX12_later_43 : decode cX12_later 43 = .ok (.aload_n 0, 1) := by decide +kernel
theorem dX12_later_44 : decode cX12_later 44 = .ok (.getfield 22, 3) := by decide +kernel
theorem dX12_later_47 : decode cX12_later 47 = .ok (.bipush (-2), 2) := by decide +kernel
theorem dX12_later_49 : decode cX12_later 49 = .ok (.iload_n 1, 1) := by decide +kernel
theorem dX12_later_50 : decode cX12_later 50 = .ok (.isub, 1) := by decide +kernel
theorem dX12_later_51 : decode cX12_later 51 = .ok (.iaload, 1) := by decide +kernel
theorem dX12_later_52 : decode cX12_later 52 = .ok (.istore 4, 2) := by decide +kernel
theorem dX12_later_54 : decode cX12_later 54 = .ok (.iload 4, 2) := by decide +kernel
theorem dX12_later_56 : decode cX12_later 56 = .ok (.ifCond .ge 5, 3) := by decide +kernel
theorem dX12_later_59 : decode cX12_later 59 = .ok (.iconst (-1), 1) := by decide +kernel
theorem dX12_later_60 : decode cX12_later 60 = .ok (.ireturn, 1) := by decide +kernel
theorem dX12_later_61 : decode cX12_later 61 = .ok (.aload_n 0, 1) := by decide +kernel
theorem dX12_later_62 : decode cX12_later 62 = .ok (.getfield 47, 3) := by decide +kernel
theorem dX12_later_65 : decode cX12_later 65 = .ok (.iload 4, 2) := by decide +kernel
theorem dX12_later_67 : decode cX12_later 67 = .ok (.baload, 1) := by decide +kernel
theorem dX12_later_68 : decode cX12_later 68 = .ok (.ifCond .ne 7, 3) := by decide +kernel
theorem dX12_later_71 : decode cX12_later 71 = .ok (.iconst 1, 1) := by decide +kernel
theorem dX12_later_72 : decode cX12_later 72 = .ok (.goto 4, 3) := by decide +kernel
theorem dX12_later_75 : decode cX12_later 75 = .ok (.iconst 0, 1) := by decide +kernel
theorem dX12_later_76 : decode cX12_later 76 = .ok (.istore 5, 2) := by decide +kernel
theorem dX12_later_78 : decode cX12_later 78 = .ok (.iload_n 2, 1) := by decide +kernel
theorem dX12_later_79 : decode cX12_later 79 = .ok (.ifCond .eq 13, 3) := by decide +kernel
theorem dX12_later_82 : decode cX12_later 82 = .ok (.aload_n 0, 1) := by decide +kernel
theorem dX12_later_83 : decode cX12_later 83 = .ok (.iload 4, 2) := by decide +kernel
theorem dX12_later_85 : decode cX12_later 85 = .ok (.iload_n 3, 1) := by decide +kernel
theorem dX12_later_86 : decode cX12_later 86 = .ok (.invokevirtual 197, 3) := by decide +kernel
theorem dX12_later_89 : decode cX12_later 89 = .ok (.goto 10, 3) := by decide +kernel
theorem dX12_later_92 : decode cX12_later 92 = .ok (.aload_n 0, 1) := by decide +kernel
theorem dX12_later_93 : decode cX12_later 93 = .ok (.iload 4, 2) := by decide +kernel
theorem dX12_later_95 : decode cX12_later 95 = .ok (.iload_n 3, 1) := by decide +kernel
theorem dX12_later_96 : decode cX12_later 96 = .ok (.invokevirtual 183, 3) := by decide +kernel
theorem dX12_later_99 : decode cX12_later 99 = .ok (.iload 5, 2) := by decide +kernel
theorem dX12_later_101 : decode cX12_later 101 = .ok (.ifCond .eq 7, 3) := by decide +kernel
theorem dX12_later_104 : decode cX12_later 104 = .ok (.iconst 1, 1) := by decide +kernel
theorem dX12_later_105 : decode cX12_later 105 = .ok (.goto 4, 3) := by decide +kernel
theorem dX12_later_108 : decode cX12_later 108 = .ok (.iconst 0, 1) := by decide +kernel
theorem dX12_later_109 : decode cX12_later 109 = .ok (.ireturn, 1) := by decide +kernel
theorem dX12_then__0 : decode cX12_then_ 0 = .ok (.aload_n 0, 1) := by decide +kernel
theorem dX12_then__1 : decode cX12_then_ 1 = .ok (.iconst 0, 1) := by decide +kernel
theorem dX12_then__2 : decode cX12_then_ 2 = .ok (.putfield 131, 3) := by decide +kernel
theorem dX12_then__5 : decode cX12_then_ 5 = .ok (.aload_n 0, 1) := by decide +kernel
theorem dX12_then__6 : decode cX12_then_ 6 = .ok (.iload_n 1, 1) := by decide +kernel
theorem dX12_then__7 : decode cX12_then_ 7 = .ok (.iconst 0, 1) := by decide +kernel
theorem dX12_then__8 : decode cX12_then_ 8 = .ok (.invokevirtual 179, 3) := by decide +kernel
theorem dX12_then__11 : decode cX12_then_ 11 = .ok (.ifCond .eq 34, 3) := by decide +kernel
theorem dX12_then__14 : decode cX12_then_ 14 = .ok (.iload_n 2, 1) := by decide +kernel
theorem dX12_then__15 : decode cX12_then_ 15 = .ok (.iconst (-1), 1) := by decide +kernel
theorem dX12_then__16 : decode cX12_then_ 16 = .ok (.if_icmp .eq 11, 3) := by decide +kernel
theorem dX12_then__19 : decode cX12_then_ 19 = .ok (.aload_n 0, 1) := by decide +kernel
theorem dX12_then__20 : decode cX12_then_ 20 = .ok (.iload_n 2, 1) := by decide +kernel
theorem dX12_then__21 : decode cX12_then_ 21 = .ok (.invokevirtual 266, 3) := by decide +kernel
theorem dX12_then__24 : decode cX12_then_ 24 = .ok (.ifCond .eq 21, 3) := by decide +kernel
theorem dX12_then__27 : decode cX12_then_ 27 = .ok (.iload 4, 2) := by decide +kernel
theorem dX12_then__29 : decode cX12_then_ 29 = .ok (.ifCond .eq 22, 3) := by decide +kernel
theorem dX12_then__32 : decode cX12_then_ 32 = .ok (.iload_n 3, 1) := by decide +kernel
theorem dX12_then__33 : decode cX12_then_ 33 = .ok (.iconst (-1), 1) := by decide +kernel
theorem dX12_then__34 : decode cX12_then_ 34 = .ok (.if_icmp .eq 17, 3) := by decide +kernel
theorem dX12_then__37 : decode cX12_then_ 37 = .ok (.aload_n 0, 1) := by decide +kernel
theorem dX12_then__38 : decode cX12_then_ 38 = .ok (.iload_n 3, 1) := by decide +kernel
theorem dX12_then__39 : decode cX12_then_ 39 = .ok (.invokevirtual 266, 3) := by decide +kernel
theorem dX12_then__42 : decode cX12_then_ 42 = .ok (.ifCond .ne 9, 3) := by decide +kernel
theorem dX12_then__45 : decode cX12_then_ 45 = .ok (.aload_n 0, 1) := by decide +kernel
theorem dX12_then__46 : decode cX12_then_ 46 = .ok (.iconst 1, 1) := by decide +kernel
theorem dX12_then__47 : decode cX12_then_ 47 = .ok (.invokevirtual 257, 3) := by decide +kernel
theorem dX12_then__50 : decode cX12_then_ 50 = .ok (.ireturn, 1) := by decide +kernel
theorem dX12_then__51 : decode cX12_then_ 51 = .ok (.aload_n 0, 1) := by decide +kernel
theorem dX12_then__52 : decode cX12_then_ 52 = .ok (.bipush 8, 2) := by decide +kernel
theorem dX12_then__54 : decode cX12_then_ 54 = .ok (.invokevirtual 254, 3) := by decide +kernel
theorem dX12_then__57 : decode cX12_then_ 57 = .ok (.ifCond .eq 9, 3) := by decide +kernel
theorem dX12_then__60 : decode cX12_then_ 60 = .ok (.aload_n 0, 1) := by decide +kernel
theorem dX12_then__61 : decode cX12_then_ 61 = .ok (.iconst 2, 1) := by decide +kernel
theorem dX12_then__62 : decode cX12_then_ 62 = .ok (.invokevirtual 257, 3) := by decide +kernel
theorem dX12_then__65 : decode cX12_then_ 65 = .ok (.ireturn, 1) := by decide +kernel
theorem dX12_then__66 : decode cX12_then_ 66 = .ok (.iload 4, 2) := by decide +kernel
theorem dX12_then__68 : decode cX12_then_ 68 = .ok (.ifCond .eq 12, 3) := by decide +kernel
theorem dX12_then__71 : decode cX12_then_ 71 = .ok (.iload_n 3, 1) := by decide +kernel
theorem dX12_then__72 : decode cX12_then_ 72 = .ok (.iconst (-1), 1) := by decide +kernel
theorem dX12_then__73 : decode cX12_then_ 73 = .ok (.if_icmp .eq 7, 3) := by decide +kernel
theorem dX12_then__76 : decode cX12_then_ 76 = .ok (.iconst 1, 1) := by decide +kernel
theorem dX12_then__77 : decode cX12_then_ 77 = .ok (.goto 4, 3) := by decide +kernel
theorem dX12_then__80 : decode cX12_then_ 80 = .ok (.iconst 0, 1) := by decide +kernel
theorem dX12_then__81 : decode cX12_then_ 81 = .ok (.istore 5, 2) := by decide +kernel
theorem dX12_then__83 : decode cX12_then_ 83 = .ok (.aload_n 0, 1) := by decide +kernel
theorem dX12_then__84 : decode cX12_then_ 84 = .ok (.bipush (-2), 2) := by decide +kernel
theorem dX12_then__86 : decode cX12_then_ 86 = .ok (.iload_n 1, 1) := by decide +kernel
theorem dX12_then__87 : decode cX12_then_ 87 = .ok (.isub, 1) := by decide +kernel
theorem dX12_then__88 : decode cX12_then_ 88 = .ok (.iload_n 2, 1) := by decide +kernel
theorem dX12_then__89 : decode cX12_then_ 89 = .ok (.iconst (-1), 1) := by decide +kernel
theorem dX12_then__90 : decode cX12_then_ 90 = .ok (.if_icmp .ne 7, 3) := by decide +kernel
theorem dX12_then__93 : decode cX12_then_ 93 = .ok (.iconst 0, 1) := by decide +kernel
theorem dX12_then__94 : decode cX12_then_ 94 = .ok (.goto 4, 3) := by decide +kernel
theorem dX12_then__97 : decode cX12_then_ 97 = .ok (.iconst 1, 1) := by decide +kernel
theorem dX12_then__98 : decode cX12_then_ 98 = .ok (.iload_n 2, 1) := by decide +kernel
theorem dX12_then__99 : decode cX12_then_ 99 = .ok (.iload 5, 2) := by decide +kernel
theorem dX12_then__101 : decode cX12_then_ 101 = .ok (.ifCond .eq 7, 3) := by decide +kernel
theorem dX12_then__104 : decode cX12_then_ 104 = .ok (.iconst 1, 1) := by decide +kernel
theorem dX12_then__105 : decode cX12_then_ 105 = .ok (.goto 4, 3) := by decide +kernel
theorem dX12_then__108 : decode cX12_then_ 108 = .ok (.iconst 0, 1) := by decide +kernel
theorem dX12_then__109 : decode cX12_then_ 109 = .ok (.iload_n 3, 1) := by decide +kernel
theorem dX12_then__110 : decode cX12_then_ 110 = .ok (.invokevirtual 220, 3) := by decide +kernel
theorem dX12_then__113 : decode cX12_then_ 113 = .ok (.invokestatic 155, 3) := by decide +kernel
theorem dX12_then__116 : decode cX12_then_ 116 = .ok (.ireturn, 1) := by decide +kernel
theorem dX12_lastly_0 : decode cX12_lastly 0 = .ok (.aload_n 0, 1) := by decide +kernel
theorem dX12_lastly_1 : decode cX12_lastly 1 = .ok (.iconst 0, 1) := by decide +kernel
theorem dX12_lastly_2 : decode cX12_lastly 2 = .ok (.putfield 131, 3) := by decide +kernel
theorem dX12_lastly_5 : decode cX12_lastly 5 = .ok (.aload_n 0, 1) := by decide +kernel
theorem dX12_lastly_6 : decode cX12_lastly 6 = .ok (.iload_n 1, 1) := by decide +kernel
theorem dX12_lastly_7 : decode cX12_lastly 7 = .ok (.iconst 0, 1) := by decide +kernel
theorem dX12_lastly_8 : decode cX12_lastly 8 = .ok (.invokevirtual 179, 3) := by decide +kernel
theorem dX12_lastly_11 : decode cX12_lastly 11 = .ok (.ifCond .eq 16, 3) := by decide +kernel
theorem dX12_lastly_14 : decode cX12_lastly 14 = .ok (.iload_n 2, 1) := by decide +kernel
theorem dX12_lastly_15 : decode cX12_lastly 15 = .ok (.iconst (-1), 1) := by decide +kernel
theorem dX12_lastly_16 : decode cX12_lastly 16 = .ok (.if_icmp .eq 17, 3) := by decide +kernel
theorem dX12_lastly_19 : decode cX12_lastly 19 = .ok (.aload_n 0, 1) := by decide +kernel
theorem dX12_lastly_20 : decode cX12_lastly 20 = .ok (.iload_n 2, 1) := by decide +kernel
theorem dX12_lastly_21 : decode cX12_lastly 21 = .ok (.invokevirtual 266, 3) := by decide +kernel
theorem dX12_lastly_24 : decode cX12_lastly 24 = .ok (.ifCond .ne 9, 3) := by decide +kernel
theorem dX12_lastly_27 : decode cX12_lastly 27 = .ok (.aload_n 0, 1) := by decide +kernel
theorem dX12_lastly_28 : decode cX12_lastly 28 = .ok (.iconst 1, 1) := by decide +kernel
theorem dX12_lastly_29 : decode cX12_lastly 29 = .ok (.invokevirtual 257, 3) := by decide +kernel
theorem dX12_lastly_32 : decode cX12_lastly 32 = .ok (.ireturn, 1) := by decide +kernel
theorem dX12_lastly_33 : decode cX12_lastly 33 = .ok (.aload_n 0, 1) := by decide +kernel
theorem dX12_lastly_34 : decode cX12_lastly 34 = .ok (.bipush 8, 2) := by decide +kernel
theorem dX12_lastly_36 : decode cX12_lastly 36 = .ok (.invokevirtual 254, 3) := by decide +kernel
theorem dX12_lastly_39 : decode cX12_lastly 39 = .ok (.ifCond .eq 9, 3) := by decide +kernel
theorem dX12_lastly_42 : decode cX12_lastly 42 = .ok (.aload_n 0, 1) := by decide +kernel
theorem dX12_lastly_43 : decode cX12_lastly 43 = .ok (.iconst 2, 1) := by decide +kernel
theorem dX12_lastly_44 : decode cX12_lastly 44 = .ok (.invokevirtual 257, 3) := by decide +kernel
theorem dX12_lastly_47 : decode cX12_lastly 47 = .ok (.ireturn, 1) := by decide +kernel
theorem dX12_lastly_48 : decode cX12_lastly 48 = .ok (.aload_n 0, 1) := by decide +kernel
theorem dX12_lastly_49 : decode cX12_lastly 49 = .ok (.bipush (-2), 2) := by decide +kernel
theorem dX12_lastly_51 : decode cX12_lastly 51 = .ok (.iload_n 1, 1) := by decide +kernel
theorem dX12_lastly_52 : decode cX12_lastly 52 = .ok (.isub, 1) := by decide +kernel
theorem dX12_lastly_53 : decode cX12_lastly 53 = .ok (.iload_n 2, 1) := by decide +kernel
theorem dX12_lastly_54 : decode cX12_lastly 54 = .ok (.iconst (-1), 1) := by decide +kernel
theorem dX12_lastly_55 : decode cX12_lastly 55 = .ok (.if_icmp .ne 7, 3) := by decide +kernel
theorem dX12_lastly_58 : decode cX12_lastly 58 = .ok (.iconst 0, 1) := by decide +kernel
theorem dX12_lastly_59 : decode cX12_lastly 59 = .ok (.goto 5, 3) := by decide +kernel
theorem dX12_lastly_62 : decode cX12_lastly 62 = .ok (.bipush 8, 2) := by decide +kernel
theorem dX12_lastly_64 : decode cX12_lastly 64 = .ok (.iload_n 2, 1) := by decide +kernel
theorem dX12_lastly_65 : decode cX12_lastly 65 = .ok (.iload_n 2, 1) := by decide +kernel
theorem dX12_lastly_66 : decode cX12_lastly 66 = .ok (.iconst (-1), 1) := by decide +kernel
theorem dX12_lastly_67 : decode cX12_lastly 67 = .ok (.if_icmp .ne 7, 3) := by decide +kernel
theorem dX12_lastly_70 : decode cX12_lastly 70 = .ok (.iconst 0, 1) := by decide +kernel
theorem dX12_lastly_71 : decode cX12_lastly 71 = .ok (.goto 5, 3) := by decide +kernel
theorem dX12_lastly_74 : decode cX12_lastly 74 = .ok (.bipush 9, 2) := by decide +kernel
theorem dX12_lastly_76 : decode cX12_lastly 76 = .ok (.iload_n 2, 1) := by decide +kernel
theorem dX12_lastly_77 : decode cX12_lastly 77 = .ok (.invokevirtual 220, 3) := by decide +kernel
theorem dX12_lastly_80 : decode cX12_lastly 80 = .ok (.invokestatic 155, 3) := by decide +kernel
theorem dX12_lastly_83 : decode cX12_lastly 83 = .ok (.ireturn, 1) := by decide +kernel
theorem dX12_wrap_0 : decode cX12_wrap 0 = .ok (.aload_n 0, 1) := by decide +kernel
theorem dX12_wrap_1 : decode cX12_wrap 1 = .ok (.iconst 0, 1) := by decide +kernel
theorem dX12_wrap_2 : decode cX12_wrap 2 = .ok (.putfield 131, 3) := by decide +kernel
theorem dX12_wrap_5 : decode cX12_wrap 5 = .ok (.aload_n 0, 1) := by decide +kernel
theorem dX12_wrap_6 : decode cX12_wrap 6 = .ok (.iload_n 1, 1) := by decide +kernel
theorem dX12_wrap_7 : decode cX12_wrap 7 = .ok (.invokevirtual 260, 3) := by decide +kernel
theorem dX12_wrap_10 : decode cX12_wrap 10 = .ok (.ifCond .ne 9, 3) := by decide +kernel
theorem dX12_wrap_13 : decode cX12_wrap 13 = .ok (.aload_n 0, 1) := by decide +kernel
theorem dX12_wrap_14 : decode cX12_wrap 14 = .ok (.iconst 1, 1) := by decide +kernel
theorem dX12_wrap_15 : decode cX12_wrap 15 = .ok (.invokevirtual 257, 3) := by decide +kernel
theorem dX12_wrap_18 : decode cX12_wrap 18 = .ok (.ireturn, 1) := by decide +kernel
theorem dX12_wrap_19 : decode cX12_wrap 19 = .ok (.aload_n 0, 1) := by decide +kernel
theorem dX12_wrap_20 : decode cX12_wrap 20 = .ok (.bipush 8, 2) := by decide +kernel
theorem dX12_wrap_22 : decode cX12_wrap 22 = .ok (.invokevirtual 254, 3) := by decide +kernel
theorem dX12_wrap_25 : decode cX12_wrap 25 = .ok (.ifCond .eq 9, 3) := by decide +kernel
theorem dX12_wrap_28 : decode cX12_wrap 28 = .ok (.aload_n 0, 1) := by decide +kernel
theorem dX12_wrap_29 : decode cX12_wrap 29 = .ok (.iconst 2, 1) := by decide +kernel
theorem dX12_wrap_30 : decode cX12_wrap 30 = .ok (.invokevirtual 257, 3) := by decide +kernel
theorem dX12_wrap_33 : decode cX12_wrap 33 = .ok (.ireturn, 1) := by decide +kernel
theorem dX12_wrap_34 : decode cX12_wrap 34 = .ok (.aload_n 0, 1) := by decide +kernel
theorem dX12_wrap_35 : decode cX12_wrap 35 = .ok (.iload_n 1, 1) := by decide +kernel
theorem dX12_wrap_36 : decode cX12_wrap 36 = .ok (.invokevirtual 214, 3) := by decide +kernel
theorem dX12_wrap_39 : decode cX12_wrap 39 = .ok (.invokestatic 155, 3) := by decide +kernel
theorem dX12_wrap_42 : decode cX12_wrap 42 = .ok (.ireturn, 1) := by decide +kernel
theorem dX12_broken_0 : decode cX12_broken 0 = .ok (.aload_n 0, 1) := by decide +kernel
theorem dX12_broken_1 : decode cX12_broken 1 = .ok (.iconst 0, 1) := by decide +kernel
theorem dX12_broken_2 : decode cX12_broken 2 = .ok (.putfield 131, 3) := by decide +kernel
theorem dX12_broken_5 : decode cX12_broken 5 = .ok (.aload_n 0, 1) := by decide +kernel
theorem dX12_broken_6 : decode cX12_broken 6 = .ok (.iload_n 1, 1) := by decide +kernel
theorem dX12_broken_7 : decode cX12_broken 7 = .ok (.invokevirtual 260, 3) := by decide +kernel
theorem dX12_broken_10 : decode cX12_broken 10 = .ok (.ifCond .ne 9, 3) := by decide +kernel
theorem dX12_broken_13 : decode cX12_broken 13 = .ok (.aload_n 0, 1) := by decide +kernel
theorem dX12_broken_14 : decode cX12_broken 14 = .ok (.iconst 1, 1) := by decide +kernel
theorem dX12_broken_15 : decode cX12_broken 15 = .ok (.invokevirtual 257, 3) := by decide +kernel
theorem dX12_broken_18 : decode cX12_broken 18 = .ok (.ireturn, 1) := by decide +kernel
theorem dX12_broken_19 : decode cX12_broken 19 = .ok (.aload_n 0, 1) := by decide +kernel
theorem dX12_broken_20 : decode cX12_broken 20 = .ok (.bipush 8, 2) := by decide +kernel
theorem dX12_broken_22 : decode cX12_broken 22 = .ok (.invokevirtual 254, 3) := by decide +kernel
theorem dX12_broken_25 : decode cX12_broken 25 = .ok (.ifCond .eq 9, 3) := by decide +kernel
theorem dX12_broken_28 : decode cX12_broken 28 = .ok (.aload_n 0, 1) := by decide +kernel
theorem dX12_broken_29 : decode cX12_broken 29 = .ok (.iconst 2, 1) := by decide +kernel
theorem dX12_broken_30 : decode cX12_broken 30 = .ok (.invokevirtual 257, 3) := by decide +kernel
theorem dX12_broken_33 : decode cX12_broken 33 = .ok (.ireturn, 1) := by decide +kernel
theorem dX12_broken_34 : decode cX12_broken 34 = .ok (.aload_n 0, 1) := by decide +kernel
theorem dX12_broken_35 : decode cX12_broken 35 = .ok (.invokevirtual 171, 3) := by decide +kernel
theorem dX12_broken_38 : decode cX12_broken 38 = .ok (.istore_n 2, 1) := by decide +kernel
theorem dX12_broken_39 : decode cX12_broken 39 = .ok (.aload_n 0, 1) := by decide +kernel
theorem dX12_broken_40 : decode cX12_broken 40 = .ok (.iload_n 2, 1) := by decide +kernel
theorem dX12_broken_41 : decode cX12_broken 41 = .ok (.iload_n 1, 1) := by decide +kernel
theorem dX12_broken_42 : decode cX12_broken 42 = .ok (.invokevirtual 197, 3) := by decide +kernel
theorem dX12_broken_45 : decode cX12_broken 45 = .ok (.aload_n 0, 1) := by decide +kernel
theorem dX12_broken_46 : decode cX12_broken 46 = .ok (.getfield 44, 3) := by decide +kernel
theorem dX12_broken_49 : decode cX12_broken 49 = .ok (.iload_n 2, 1) := by decide +kernel
theorem dX12_broken_50 : decode cX12_broken 50 = .ok (.iaload, 1) := by decide +kernel
theorem dX12_broken_51 : decode cX12_broken 51 = .ok (.invokestatic 155, 3) := by decide +kernel
theorem dX12_broken_54 : decode cX12_broken 54 = .ok (.ireturn, 1) := by decide +kernel
theorem dX12_item_0 : decode cX12_item 0 = .ok (.aload_n 0, 1) := by decide +kernel
theorem dX12_item_1 : decode cX12_item 1 = .ok (.iconst 0, 1) := by decide +kernel
theorem dX12_item_2 : decode cX12_item 2 = .ok (.putfield 131, 3) := by decide +kernel
theorem dX12_item_5 : decode cX12_item 5 = .ok (.aload_n 0, 1) := by decide +kernel
theorem dX12_item_6 : decode cX12_item 6 = .ok (.iload_n 1, 1) := by decide +kernel
theorem dX12_item_7 : decode cX12_item 7 = .ok (.invokevirtual 260, 3) := by decide +kernel
theorem dX12_item_10 : decode cX12_item 10 = .ok (.ifCond .ne 9, 3) := by decide +kernel
theorem dX12_item_13 : decode cX12_item 13 = .ok (.aload_n 0, 1) := by decide +kernel
theorem dX12_item_14 : decode cX12_item 14 = .ok (.iconst 1, 1) := by decide +kernel
theorem dX12_item_15 : decode cX12_item 15 = .ok (.invokevirtual 257, 3) := by decide +kernel
theorem dX12_item_18 : decode cX12_item 18 = .ok (.ireturn, 1) := by decide +kernel
theorem dX12_item_19 : decode cX12_item 19 = .ok (.aload_n 0, 1) := by decide +kernel
theorem dX12_item_20 : decode cX12_item 20 = .ok (.getfield 251, 3) := by decide +kernel
theorem dX12_item_23 : decode cX12_item 23 = .ok (.sipush 200, 3) := by decide +kernel
theorem dX12_item_26 : decode cX12_item 26 = .ok (.if_icmp .ne 9, 3) := by decide +kernel
theorem dX12_item_29 : decode cX12_item 29 = .ok (.aload_n 0, 1) := by decide +kernel
theorem dX12_item_30 : decode cX12_item 30 = .ok (.iconst 2, 1) := by decide +kernel
theorem dX12_item_31 : decode cX12_item 31 = .ok (.invokevirtual 257, 3) := by decide +kernel
theorem dX12_item_34 : decode cX12_item 34 = .ok (.ireturn, 1) := by decide +kernel
theorem dX12_item_35 : decode cX12_item 35 = .ok (.aload_n 0, 1) := by decide +kernel
theorem dX12_item_36 : decode cX12_item 36 = .ok (.getfield 98, 3) := by decide +kernel
theorem dX12_item_39 : decode cX12_item 39 = .ok (.aload_n 0, 1) := by decide +kernel
theorem dX12_item_40 : decode cX12_item 40 = .ok (.getfield 251, 3) := by decide +kernel
theorem dX12_item_43 : decode cX12_item 43 = .ok (.iload_n 1, 1) := by decide +kernel
theorem dX12_item_44 : decode cX12_item 44 = .ok (.iastore, 1) := by decide +kernel
theorem dX12_item_45 : decode cX12_item 45 = .ok (.aload_n 0, 1) := by decide +kernel
theorem dX12_item_46 : decode cX12_item 46 = .ok (.dup, 1) := by decide +kernel
theorem dX12_item_47 : decode cX12_item 47 = .ok (.getfield 251, 3) := by decide +kernel
theorem dX12_item_50 : decode cX12_item 50 = .ok (.iconst 1, 1) := by decide +kernel
theorem dX12_item_51 : decode cX12_item 51 = .ok (.iadd, 1) := by decide +kernel
theorem dX12_item_52 : decode cX12_item 52 = .ok (.putfield 251, 3) := by decide +kernel
theorem dX12_item_55 : decode cX12_item 55 = .ok (.aload_n 0, 1) := by decide +kernel
theorem dX12_item_56 : decode cX12_item 56 = .ok (.getfield 251, 3) := by decide +kernel
theorem dX12_item_59 : decode cX12_item 59 = .ok (.ireturn, 1) := by decide +kernel
theorem dX12_combine_0 : decode cX12_combine 0 = .ok (.aload_n 0, 1) := by decide +kernel
theorem dX12_combine_1 : decode cX12_combine 1 = .ok (.iconst 0, 1) := by decide +kernel
theorem dX12_combine_2 : decode cX12_combine 2 = .ok (.putfield 131, 3) := by decide +kernel
theorem dX12_combine_5 : decode cX12_combine 5 = .ok (.iload_n 1, 1) := by decide +kernel
theorem dX12_combine_6 : decode cX12_combine 6 = .ok (.ifCond .lt 8, 3) := by decide +kernel
theorem dX12_combine_9 : decode cX12_combine 9 = .ok (.iload_n 1, 1) := by decide +kernel
theorem dX12_combine_10 : decode cX12_combine 10 = .ok (.iconst 3, 1) := by decide +kernel
theorem dX12_combine_11 : decode cX12_combine 11 = .ok (.if_icmp .le 9, 3) := by decide +kernel
theorem dX12_combine_14 : decode cX12_combine 14 = .ok (.aload_n 0, 1) := by decide +kernel
theorem dX12_combine_15 : decode cX12_combine 15 = .ok (.iconst 1, 1) := by decide +kernel
theorem dX12_combine_16 : decode cX12_combine 16 = .ok (.invokevirtual 257, 3) := by decide +kernel
theorem dX12_combine_19 : decode cX12_combine 19 = .ok (.ireturn, 1) := by decide +kernel
theorem dX12_combine_20 : decode cX12_combine 20 = .ok (.aload_n 0, 1) := by decide +kernel
theorem dX12_combine_21 : decode cX12_combine 21 = .ok (.bipush 8, 2) := by decide +kernel
theorem dX12_combine_23 : decode cX12_combine 23 = .ok (.iconst 2, 1) := by decide +kernel
theorem dX12_combine_24 : decode cX12_combine 24 = .ok (.aload_n 0, 1) := by decide +kernel
theorem dX12_combine_25 : decode cX12_combine 25 = .ok (.getfield 251, 3) := by decide +kernel
theorem dX12_combine_28 : decode cX12_combine 28 = .ok (.imul, 1) := by decide +kernel
theorem dX12_combine_29 : decode cX12_combine 29 = .ok (.iadd, 1) := by decide +kernel
theorem dX12_combine_30 : decode cX12_combine 30 = .ok (.invokevirtual 254, 3) := by decide +kernel
theorem dX12_combine_33 : decode cX12_combine 33 = .ok (.ifCond .eq 9, 3) := by decide +kernel
theorem dX12_combine_36 : decode cX12_combine 36 = .ok (.aload_n 0, 1) := by decide +kernel
theorem dX12_combine_37 : decode cX12_combine 37 = .ok (.iconst 2, 1) := by decide +kernel
theorem dX12_combine_38 : decode cX12_combine 38 = .ok (.invokevirtual 257, 3) := by decide +kernel
theorem dX12_combine_41 : decode cX12_combine 41 = .ok (.ireturn, 1) := by decide +kernel
theorem dX12_combine_42 : decode cX12_combine 42 = .ok (.aload_n 0, 1) := by decide +kernel
theorem dX12_combine_43 : decode cX12_combine 43 = .ok (.invokevirtual 171, 3) := by decide +kernel
theorem dX12_combine_46 : decode cX12_combine 46 = .ok (.istore_n 2, 1) := by decide +kernel
theorem dX12_combine_47 : decode cX12_combine 47 = .ok (.aload_n 0, 1) := by decide +kernel
theorem dX12_combine_48 : decode cX12_combine 48 = .ok (.invokevirtual 269, 3) := by decide +kernel
theorem dX12_combine_51 : decode cX12_combine 51 = .ok (.istore_n 3, 1) := by decide +kernel
theorem dX12_combine_52 : decode cX12_combine 52 = .ok (.aload_n 0, 1) := by decide +kernel
theorem dX12_combine_53 : decode cX12_combine 53 = .ok (.getfield 119, 3) := by decide +kernel
theorem dX12_combine_56 : decode cX12_combine 56 = .ok (.iload_n 3, 1) := by decide +kernel
theorem dX12_combine_57 : decode cX12_combine 57 = .ok (.iload_n 2, 1) := by decide +kernel
theorem dX12_combine_58 : decode cX12_combine 58 = .ok (.iastore, 1) := by decide +kernel
theorem dX12_combine_59 : decode cX12_combine 59 = .ok (.aload_n 0, 1) := by decide +kernel
theorem dX12_combine_60 : decode cX12_combine 60 = .ok (.getfield 116, 3) := by decide +kernel
theorem dX12_combine_63 : decode cX12_combine 63 = .ok (.iload_n 3, 1) := by decide +kernel
theorem dX12_combine_64 : decode cX12_combine 64 = .ok (.iconst 1, 1) := by decide +kernel
theorem dX12_combine_65 : decode cX12_combine 65 = .ok (.iastore, 1) := by decide +kernel
theorem dX12_combine_66 : decode cX12_combine 66 = .ok (.iconst 0, 1) := by decide +kernel
theorem dX12_combine_67 : decode cX12_combine 67 = .ok (.istore 4, 2) := by decide +kernel
theorem dX12_combine_69 : decode cX12_combine 69 = .ok (.iload 4, 2) := by decide +kernel
theorem dX12_combine_71 : decode cX12_combine 71 = .ok (.aload_n 0, 1) := by decide +kernel
theorem dX12_combine_72 : decode cX12_combine 72 = .ok (.getfield 113, 3) := by decide +kernel
theorem dX12_combine_75 : decode cX12_combine 75 = .ok (.iload_n 3, 1) := by decide +kernel
theorem dX12_combine_76 : decode cX12_combine 76 = .ok (.iaload, 1) := by decide +kernel
theorem dX12_combine_77 : decode cX12_combine 77 = .ok (.if_icmp .ge 129, 3) := by decide +kernel
theorem dX12_combine_80 : decode cX12_combine 80 = .ok (.aload_n 0, 1) := by decide +kernel
theorem dX12_combine_81 : decode cX12_combine 81 = .ok (.getfield 110, 3) := by decide +kernel
theorem dX12_combine_84 : decode cX12_combine 84 = .ok (.iload_n 3, 1) := by decide +kernel
theorem dX12_combine_85 : decode cX12_combine 85 = .ok (.iaload, 1) := by decide +kernel
theorem dX12_combine_86 : decode cX12_combine 86 = .ok (.iload 4, 2) := by decide +kernel
theorem dX12_combine_88 : decode cX12_combine 88 = .ok (.iadd, 1) := by decide +kernel
theorem dX12_combine_89 : decode cX12_combine 89 = .ok (.istore 5, 2) := by decide +kernel
theorem dX12_combine_91 : decode cX12_combine 91 = .ok (.aload_n 0, 1) := by decide +kernel
theorem dX12_combine_92 : decode cX12_combine 92 = .ok (.aload_n 0, 1) := by decide +kernel
theorem dX12_combine_93 : decode cX12_combine 93 = .ok (.getfield 101, 3) := by decide +kernel
theorem dX12_combine_96 : decode cX12_combine 96 = .ok (.iload 5, 2) := by decide +kernel
theorem dX12_combine_98 : decode cX12_combine 98 = .ok (.iaload, 1) := by decide +kernel
theorem dX12_combine_99 : decode cX12_combine 99 = .ok (.invokevirtual 214, 3) := by decide +kernel
theorem dX12_combine_102 : decode cX12_combine 102 = .ok (.istore 6, 2) := by decide +kernel
theorem dX12_combine_104 : decode cX12_combine 104 = .ok (.iload_n 1, 1) := by decide +kernel
theorem dX12_combine_105 : decode cX12_combine 105 = .ok (.iconst 3, 1) := by decide +kernel
theorem dX12_combine_106 : decode cX12_combine 106 = .ok (.if_icmp .ge 21, 3) := by decide +kernel
theorem dX12_combine_109 : decode cX12_combine 109 = .ok (.aload_n 0, 1) := by decide +kernel
theorem dX12_combine_110 : decode cX12_combine 110 = .ok (.getfield 101, 3) := by decide +kernel
theorem dX12_combine_113 : decode cX12_combine 113 = .ok (.iload 5, 2) := by decide +kernel
theorem dX12_combine_115 : decode cX12_combine 115 = .ok (.iconst (-1), 1) := by decide +kernel
theorem dX12_combine_116 : decode cX12_combine 116 = .ok (.iastore, 1) := by decide +kernel
theorem dX12_combine_117 : decode cX12_combine 117 = .ok (.aload_n 0, 1) := by decide +kernel
theorem dX12_combine_118 : decode cX12_combine 118 = .ok (.getfield 116, 3) := by decide +kernel
theorem dX12_combine_121 : decode cX12_combine 121 = .ok (.iload_n 3, 1) := by decide +kernel
theorem dX12_combine_122 : decode cX12_combine 122 = .ok (.dup2, 1) := by decide +kernel
theorem dX12_combine_123 : decode cX12_combine 123 = .ok (.iaload, 1) := by decide +kernel
theorem dX12_combine_124 : decode cX12_combine 124 = .ok (.iconst 1, 1) := by decide +kernel
theorem dX12_combine_125 : decode cX12_combine 125 = .ok (.iadd, 1) := by decide +kernel
theorem dX12_combine_126 : decode cX12_combine 126 = .ok (.iastore, 1) := by decide +kernel
theorem dX12_combine_127 : decode cX12_combine 127 = .ok (.iload_n 1, 1) := by decide +kernel
theorem dX12_combine_128 : decode cX12_combine 128 = .ok (.ifCond .ne 18, 3) := by decide +kernel
theorem dX12_combine_131 : decode cX12_combine 131 = .ok (.aload_n 0, 1) := by decide +kernel
theorem dX12_combine_132 : decode cX12_combine 132 = .ok (.iload 6, 2) := by decide +kernel
theorem dX12_combine_134 : decode cX12_combine 134 = .ok (.iconst 4, 1) := by decide +kernel
theorem dX12_combine_135 : decode cX12_combine 135 = .ok (.iload 5, 2) := by decide +kernel
theorem dX12_combine_137 : decode cX12_combine 137 = .ok (.iconst 3, 1) := by decide +kernel
theorem dX12_combine_138 : decode cX12_combine 138 = .ok (.iload_n 2, 1) := by decide +kernel
theorem dX12_combine_139 : decode cX12_combine 139 = .ok (.invokevirtual 220, 3) := by decide +kernel
theorem dX12_combine_142 : decode cX12_combine 142 = .ok (.pop, 1) := by decide +kernel
theorem dX12_combine_143 : decode cX12_combine 143 = .ok (.goto 57, 3) := by decide +kernel
theorem dX12_combine_146 : decode cX12_combine 146 = .ok (.iload_n 1, 1) := by decide +kernel
theorem dX12_combine_147 : decode cX12_combine 147 = .ok (.iconst 1, 1) := by decide +kernel
theorem dX12_combine_148 : decode cX12_combine 148 = .ok (.if_icmp .ne 20, 3) := by decide +kernel
theorem dX12_combine_151 : decode cX12_combine 151 = .ok (.aload_n 0, 1) := by decide +kernel
theorem dX12_combine_152 : decode cX12_combine 152 = .ok (.iload 6, 2) := by decide +kernel
theorem dX12_combine_154 : decode cX12_combine 154 = .ok (.iconst 5, 1) := by decide +kernel
theorem dX12_combine_155 : decode cX12_combine 155 = .ok (.iload 5, 2) := by decide +kernel
theorem dX12_combine_157 : decode cX12_combine 157 = .ok (.bipush 6, 2) := by decide +kernel
theorem dX12_combine_159 : decode cX12_combine 159 = .ok (.iload 5, 2) := by decide +kernel
theorem dX12_combine_161 : decode cX12_combine 161 = .ok (.invokevirtual 220, 3) := by decide +kernel
theorem dX12_combine_164 : decode cX12_combine 164 = .ok (.pop, 1) := by decide +kernel
theorem dX12_combine_165 : decode cX12_combine 165 = .ok (.goto 35, 3) := by decide +kernel
theorem dX12_combine_168 : decode cX12_combine 168 = .ok (.iload_n 1, 1) := by decide +kernel
theorem dX12_combine_169 : decode cX12_combine 169 = .ok (.iconst 2, 1) := by decide +kernel
theorem dX12_combine_170 : decode cX12_combine 170 = .ok (.if_icmp .ne 19, 3) := by decide +kernel
theorem dX12_combine_173 : decode cX12_combine 173 = .ok (.aload_n 0, 1) := by decide +kernel
theorem dX12_combine_174 : decode cX12_combine 174 = .ok (.iload 6, 2) := by decide +kernel
theorem dX12_combine_176 : decode cX12_combine 176 = .ok (.iconst 2, 1) := by decide +kernel
theorem dX12_combine_177 : decode cX12_combine 177 = .ok (.iload_n 2, 1) := by decide +kernel
theorem dX12_combine_178 : decode cX12_combine 178 = .ok (.bipush 7, 2) := by decide +kernel
theorem dX12_combine_180 : decode cX12_combine 180 = .ok (.iload 5, 2) := by decide +kernel
theorem dX12_combine_182 : decode cX12_combine 182 = .ok (.invokevirtual 220, 3) := by decide +kernel
theorem dX12_combine_185 : decode cX12_combine 185 = .ok (.pop, 1) := by decide +kernel
theorem dX12_combine_186 : decode cX12_combine 186 = .ok (.goto 14, 3) := by decide +kernel
theorem dX12_combine_189 : decode cX12_combine 189 = .ok (.aload_n 0, 1) := by decide +kernel
theorem dX12_combine_190 : decode cX12_combine 190 = .ok (.iload 6, 2) := by decide +kernel
theorem dX12_combine_192 : decode cX12_combine 192 = .ok (.iconst 2, 1) := by decide +kernel
theorem dX12_combine_193 : decode cX12_combine 193 = .ok (.iload_n 2, 1) := by decide +kernel
theorem dX12_combine_194 : decode cX12_combine 194 = .ok (.iconst 3, 1) := by decide +kernel
theorem dX12_combine_195 : decode cX12_combine 195 = .ok (.iload_n 2, 1) := by decide +kernel
theorem dX12_combine_196 : decode cX12_combine 196 = .ok (.invokevirtual 220, 3) := by decide +kernel
theorem dX12_combine_199 : decode cX12_combine 199 = .ok (.pop, 1) := by decide +kernel
theorem dX12_combine_200 : decode cX12_combine 200 = .ok (.iinc 4 1, 3) := by decide +kernel
theorem dX12_combine_203 : decode cX12_combine 203 = .ok (.goto (-134), 3) := by decide +kernel
theorem dX12_combine_206 : decode cX12_combine 206 = .ok (.aload_n 0, 1) := by decide +kernel
theorem dX12_combine_207 : decode cX12_combine 207 = .ok (.getfield 116, 3) := by decide +kernel
theorem dX12_combine_210 : decode cX12_combine 210 = .ok (.iload_n 3, 1) := by decide +kernel
theorem dX12_combine_211 : decode cX12_combine 211 = .ok (.dup2, 1) := by decide +kernel
theorem dX12_combine_212 : decode cX12_combine 212 = .ok (.iaload, 1) := by decide +kernel
theorem dX12_combine_213 : decode cX12_combine 213 = .ok (.iconst 1, 1) := by decide +kernel
theorem dX12_combine_214 : decode cX12_combine 214 = .ok (.isub, 1) := by decide +kernel
theorem dX12_combine_215 : decode cX12_combine 215 = .ok (.iastore, 1) := by decide +kernel
theorem dX12_combine_216 : decode cX12_combine 216 = .ok (.iload_n 1, 1) := by decide +kernel
theorem dX12_combine_217 : decode cX12_combine 217 = .ok (.iconst 3, 1) := by decide +kernel
theorem dX12_combine_218 : decode cX12_combine 218 = .ok (.if_icmp .ge 27, 3) := by decide +kernel
theorem dX12_combine_221 : decode cX12_combine 221 = .ok (.aload_n 0, 1) := by decide +kernel
theorem dX12_combine_222 : decode cX12_combine 222 = .ok (.getfield 116, 3) := by decide +kernel
theorem dX12_combine_225 : decode cX12_combine 225 = .ok (.iload_n 3, 1) := by decide +kernel
theorem dX12_combine_226 : decode cX12_combine 226 = .ok (.iaload, 1) := by decide +kernel
theorem dX12_combine_227 : decode cX12_combine 227 = .ok (.ifCond .ne 18, 3) := by decide +kernel
theorem dX12_combine_230 : decode cX12_combine 230 = .ok (.aload_n 0, 1) := by decide +kernel
theorem dX12_combine_231 : decode cX12_combine 231 = .ok (.iload_n 3, 1) := by decide +kernel
theorem dX12_combine_232 : decode cX12_combine 232 = .ok (.iload_n 1, 1) := by decide +kernel
theorem dX12_combine_233 : decode cX12_combine 233 = .ok (.iconst 2, 1) := by decide +kernel
theorem dX12_combine_234 : decode cX12_combine 234 = .ok (.if_icmp .ne 7, 3) := by decide +kernel
theorem dX12_combine_237 : decode cX12_combine 237 = .ok (.iconst 1, 1) := by decide +kernel
theorem dX12_combine_238 : decode cX12_combine 238 = .ok (.goto 4, 3) := by decide +kernel
theorem dX12_combine_241 : decode cX12_combine 241 = .ok (.iconst 0, 1) := by decide +kernel
theorem dX12_combine_242 : decode cX12_combine 242 = .ok (.invokevirtual 224, 3) := by decide +kernel
theorem dX12_combine_245 : decode cX12_combine 245 = .ok (.aload_n 0, 1) := by decide +kernel
theorem dX12_combine_246 : decode cX12_combine 246 = .ok (.getfield 44, 3) := by decide +kernel
theorem dX12_combine_249 : decode cX12_combine 249 = .ok (.iload_n 2, 1) := by decide +kernel
theorem dX12_combine_250 : decode cX12_combine 250 = .ok (.iaload, 1) := by decide +kernel
theorem dX12_combine_251 : decode cX12_combine 251 = .ok (.invokestatic 155, 3) := by decide +kernel
theorem dX12_combine_254 : decode cX12_combine 254 = .ok (.ireturn, 1) := by decide +kernel
theorem dX12_async_0 : decode cX12_async 0 = .ok (.aload_n 0, 1) := by decide +kernel
theorem dX12_async_1 : decode cX12_async 1 = .ok (.iconst 0, 1) := by decide +kernel
theorem dX12_async_2 : decode cX12_async 2 = .ok (.putfield 131, 3) := by decide +kernel
theorem dX12_async_5 : decode cX12_async 5 = .ok (.aload_n 0, 1) := by decide +kernel
theorem dX12_async_6 : decode cX12_async 6 = .ok (.iload_n 1, 1) := by decide +kernel
theorem dX12_async_7 : decode cX12_async 7 = .ok (.invokevirtual 260, 3) := by decide +kernel
theorem dX12_async_10 : decode cX12_async 10 = .ok (.ifCond .eq 16, 3) := by decide +kernel
theorem dX12_async_13 : decode cX12_async 13 = .ok (.iload_n 2, 1) := by decide +kernel
theorem dX12_async_14 : decode cX12_async 14 = .ok (.iconst (-1), 1) := by decide +kernel
theorem dX12_async_15 : decode cX12_async 15 = .ok (.if_icmp .eq 17, 3) := by decide +kernel
theorem dX12_async_18 : decode cX12_async 18 = .ok (.aload_n 0, 1) := by decide +kernel
theorem dX12_async_19 : decode cX12_async 19 = .ok (.iload_n 2, 1) := by decide +kernel
theorem dX12_async_20 : decode cX12_async 20 = .ok (.invokevirtual 266, 3) := by decide +kernel
theorem dX12_async_23 : decode cX12_async 23 = .ok (.ifCond .ne 9, 3) := by decide +kernel
theorem dX12_async_26 : decode cX12_async 26 = .ok (.aload_n 0, 1) := by decide +kernel
theorem dX12_async_27 : decode cX12_async 27 = .ok (.iconst 1, 1) := by decide +kernel
theorem dX12_async_28 : decode cX12_async 28 = .ok (.invokevirtual 257, 3) := by decide +kernel
theorem dX12_async_31 : decode cX12_async 31 = .ok (.ireturn, 1) := by decide +kernel
theorem dX12_async_32 : decode cX12_async 32 = .ok (.aload_n 0, 1) := by decide +kernel
theorem dX12_async_33 : decode cX12_async 33 = .ok (.bipush 8, 2) := by decide +kernel
theorem dX12_async_35 : decode cX12_async 35 = .ok (.invokevirtual 254, 3) := by decide +kernel
theorem dX12_async_38 : decode cX12_async 38 = .ok (.ifCond .eq 9, 3) := by decide +kernel
theorem dX12_async_41 : decode cX12_async 41 = .ok (.aload_n 0, 1) := by decide +kernel
theorem dX12_async_42 : decode cX12_async 42 = .ok (.iconst 2, 1) := by decide +kernel
theorem dX12_async_43 : decode cX12_async 43 = .ok (.invokevirtual 257, 3) := by decide +kernel
theorem dX12_async_46 : decode cX12_async 46 = .ok (.ireturn, 1) := by decide +kernel
theorem dX12_async_47 : decode cX12_async 47 = .ok (.aload_n 0, 1) := by decide +kernel
theorem dX12_async_48 : decode cX12_async 48 = .ok (.invokevirtual 171, 3) := by decide +kernel
theorem dX12_async_51 : decode cX12_async 51 = .ok (.istore_n 3, 1) := by decide +kernel
theorem dX12_async_52 : decode cX12_async 52 = .ok (.aload_n 0, 1) := by decide +kernel
theorem dX12_async_53 : decode cX12_async 53 = .ok (.invokevirtual 269, 3) := by decide +kernel
theorem dX12_async_56 : decode cX12_async 56 = .ok (.istore 4, 2) := by decide +kernel
theorem dX12_async_58 : decode cX12_async 58 = .ok (.aload_n 0, 1) := by decide +kernel
theorem dX12_async_59 : decode cX12_async 59 = .ok (.getfield 119, 3) := by decide +kernel
theorem dX12_async_62 : decode cX12_async 62 = .ok (.iload 4, 2) := by decide +kernel
theorem dX12_async_64 : decode cX12_async 64 = .ok (.iload_n 3, 1) := by decide +kernel
theorem dX12_async_65 : decode cX12_async 65 = .ok (.iastore, 1) := by decide +kernel
theorem dX12_async_66 : decode cX12_async 66 = .ok (.aload_n 0, 1) := by decide +kernel
theorem dX12_async_67 : decode cX12_async 67 = .ok (.getfield 128, 3) := by decide +kernel
theorem dX12_async_70 : decode cX12_async 70 = .ok (.iload 4, 2) := by decide +kernel
theorem dX12_async_72 : decode cX12_async 72 = .ok (.iconst 0, 1) := by decide +kernel
theorem dX12_async_73 : decode cX12_async 73 = .ok (.iastore, 1) := by decide +kernel
theorem dX12_async_74 : decode cX12_async 74 = .ok (.aload_n 0, 1) := by decide +kernel
theorem dX12_async_75 : decode cX12_async 75 = .ok (.getfield 122, 3) := by decide +kernel
theorem dX12_async_78 : decode cX12_async 78 = .ok (.iload 4, 2) := by decide +kernel
theorem dX12_async_80 : decode cX12_async 80 = .ok (.iload_n 1, 1) := by decide +kernel
theorem dX12_async_81 : decode cX12_async 81 = .ok (.iastore, 1) := by decide +kernel
theorem dX12_async_82 : decode cX12_async 82 = .ok (.aload_n 0, 1) := by decide +kernel
theorem dX12_async_83 : decode cX12_async 83 = .ok (.getfield 125, 3) := by decide +kernel
theorem dX12_async_86 : decode cX12_async 86 = .ok (.iload 4, 2) := by decide +kernel
theorem dX12_async_88 : decode cX12_async 88 = .ok (.iload_n 2, 1) := by decide +kernel
theorem dX12_async_89 : decode cX12_async 89 = .ok (.iastore, 1) := by decide +kernel
theorem dX12_async_90 : decode cX12_async 90 = .ok (.aload_n 0, 1) := by decide +kernel
theorem dX12_async_91 : decode cX12_async 91 = .ok (.iload 4, 2) := by decide +kernel
theorem dX12_async_93 : decode cX12_async 93 = .ok (.invokevirtual 244, 3) := by decide +kernel
theorem dX12_async_96 : decode cX12_async 96 = .ok (.aload_n 0, 1) := by decide +kernel
theorem dX12_async_97 : decode cX12_async 97 = .ok (.getfield 44, 3) := by decide +kernel
theorem dX12_async_100 : decode cX12_async 100 = .ok (.iload_n 3, 1) := by decide +kernel
theorem dX12_async_101 : decode cX12_async 101 = .ok (.iaload, 1) := by decide +kernel
theorem dX12_async_102 : decode cX12_async 102 = .ok (.invokestatic 155, 3) := by decide +kernel
theorem dX12_async_105 : decode cX12_async 105 = .ok (.ireturn, 1) := by decide +kernel
theorem dX12_jobs_0 : decode cX12_jobs 0 = .ok (.aload_n 0, 1) := by decide +kernel
theorem dX12_jobs_1 : decode cX12_jobs 1 = .ok (.iconst 0, 1) := by decide +kernel
theorem dX12_jobs_2 : decode cX12_jobs 2 = .ok (.putfield 131, 3) := by decide +kernel
theorem dX12_jobs_5 : decode cX12_jobs 5 = .ok (.iconst 0, 1) := by decide +kernel
theorem dX12_jobs_6 : decode cX12_jobs 6 = .ok (.istore_n 2, 1) := by decide +kernel
theorem dX12_jobs_7 : decode cX12_jobs 7 = .ok (.iload_n 2, 1) := by decide +kernel
theorem dX12_jobs_8 : decode cX12_jobs 8 = .ok (.iload_n 1, 1) := by decide +kernel
theorem dX12_jobs_9 : decode cX12_jobs 9 = .ok (.if_icmp .ge 49, 3) := by decide +kernel
theorem dX12_jobs_12 : decode cX12_jobs 12 = .ok (.aload_n 0, 1) := by decide +kernel
theorem dX12_jobs_13 : decode cX12_jobs 13 = .ok (.getfield 231, 3) := by decide +kernel
theorem dX12_jobs_16 : decode cX12_jobs 16 = .ok (.aload_n 0, 1) := by decide +kernel
theorem dX12_jobs_17 : decode cX12_jobs 17 = .ok (.getfield 162, 3) := by decide +kernel
theorem dX12_jobs_20 : decode cX12_jobs 20 = .ok (.if_icmp .ge 38, 3) := by decide +kernel
theorem dX12_jobs_23 : decode cX12_jobs 23 = .ok (.aload_n 0, 1) := by decide +kernel
theorem dX12_jobs_24 : decode cX12_jobs 24 = .ok (.bipush 8, 2) := by decide +kernel
theorem dX12_jobs_26 : decode cX12_jobs 26 = .ok (.invokevirtual 254, 3) := by decide +kernel
theorem dX12_jobs_29 : decode cX12_jobs 29 = .ok (.ifCond .ne 13, 3) := by decide +kernel
theorem dX12_jobs_32 : decode cX12_jobs 32 = .ok (.aload_n 0, 1) := by decide +kernel
theorem dX12_jobs_33 : decode cX12_jobs 33 = .ok (.getfield 187, 3) := by decide +kernel
theorem dX12_jobs_36 : decode cX12_jobs 36 = .ok (.sipush 4000, 3) := by decide +kernel
theorem dX12_jobs_39 : decode cX12_jobs 39 = .ok (.if_icmp .lt 9, 3) := by decide +kernel
theorem dX12_jobs_42 : decode cX12_jobs 42 = .ok (.aload_n 0, 1) := by decide +kernel
theorem dX12_jobs_43 : decode cX12_jobs 43 = .ok (.iconst 1, 1) := by decide +kernel
theorem dX12_jobs_44 : decode cX12_jobs 44 = .ok (.invokevirtual 257, 3) := by decide +kernel
theorem dX12_jobs_47 : decode cX12_jobs 47 = .ok (.ireturn, 1) := by decide +kernel
theorem dX12_jobs_48 : decode cX12_jobs 48 = .ok (.aload_n 0, 1) := by decide +kernel
theorem dX12_jobs_49 : decode cX12_jobs 49 = .ok (.invokevirtual 272, 3) := by decide +kernel
theorem dX12_jobs_52 : decode cX12_jobs 52 = .ok (.iinc 2 1, 3) := by decide +kernel
theorem dX12_jobs_55 : decode cX12_jobs 55 = .ok (.goto (-48), 3) := by decide +kernel
theorem dX12_jobs_58 : decode cX12_jobs 58 = .ok (.iload_n 2, 1) := by decide +kernel
theorem dX12_jobs_59 : decode cX12_jobs 59 = .ok (.ireturn, 1) := by decide +kernel
theorem dX12_state_0 : decode cX12_state 0 = .ok (.aload_n 0, 1) := by decide +kernel
theorem dX12_state_1 : decode cX12_state 1 = .ok (.iconst 0, 1) := by decide +kernel
theorem dX12_state_2 : decode cX12_state 2 = .ok (.putfield 131, 3) := by decide +kernel
theorem dX12_state_5 : decode cX12_state 5 = .ok (.aload_n 0, 1) := by decide +kernel
theorem dX12_state_6 : decode cX12_state 6 = .ok (.iload_n 1, 1) := by decide +kernel
theorem dX12_state_7 : decode cX12_state 7 = .ok (.iconst 0, 1) := by decide +kernel
theorem dX12_state_8 : decode cX12_state 8 = .ok (.invokevirtual 179, 3) := by decide +kernel
theorem dX12_state_11 : decode cX12_state 11 = .ok (.ifCond .ne 9, 3) := by decide +kernel
theorem dX12_state_14 : decode cX12_state 14 = .ok (.aload_n 0, 1) := by decide +kernel
theorem dX12_state_15 : decode cX12_state 15 = .ok (.iconst 1, 1) := by decide +kernel
theorem dX12_state_16 : decode cX12_state 16 = .ok (.invokevirtual 257, 3) := by decide +kernel
theorem dX12_state_19 : decode cX12_state 19 = .ok (.ireturn, 1) := by decide +kernel
theorem dX12_state_20 : decode cX12_state 20 = .ok (.aload_n 0, 1) := by decide +kernel
theorem dX12_state_21 : decode cX12_state 21 = .ok (.getfield 13, 3) := by decide +kernel
theorem dX12_state_24 : decode cX12_state 24 = .ok (.bipush (-2), 2) := by decide +kernel
theorem dX12_state_26 : decode cX12_state 26 = .ok (.iload_n 1, 1) := by decide +kernel
theorem dX12_state_27 : decode cX12_state 27 = .ok (.isub, 1) := by decide +kernel
theorem dX12_state_28 : decode cX12_state 28 = .ok (.iaload, 1) := by decide +kernel
theorem dX12_state_29 : decode cX12_state 29 = .ok (.aload_n 0, 1) := by decide +kernel
theorem dX12_state_30 : decode cX12_state 30 = .ok (.getfield 25, 3) := by decide +kernel
theorem dX12_state_33 : decode cX12_state 33 = .ok (.bipush (-2), 2) := by decide +kernel
theorem dX12_state_35 : decode cX12_state 35 = .ok (.iload_n 1, 1) := by decide +kernel
theorem dX12_state_36 : decode cX12_state 36 = .ok (.isub, 1) := by decide +kernel
theorem dX12_state_37 : decode cX12_state 37 = .ok (.baload, 1) := by decide +kernel
theorem dX12_state_38 : decode cX12_state 38 = .ok (.ifCond .eq 7, 3) := by decide +kernel
theorem dX12_state_41 : decode cX12_state 41 = .ok (.iconst 4, 1) := by decide +kernel
theorem dX12_state_42 : decode cX12_state 42 = .ok (.goto 4, 3) := by decide +kernel
theorem dX12_state_45 : decode cX12_state 45 = .ok (.iconst 0, 1) := by decide +kernel
theorem dX12_state_46 : decode cX12_state 46 = .ok (.iadd, 1) := by decide +kernel
theorem dX12_state_47 : decode cX12_state 47 = .ok (.ireturn, 1) := by decide +kernel
theorem dX12_result_0 : decode cX12_result 0 = .ok (.aload_n 0, 1) := by decide +kernel
theorem dX12_result_1 : decode cX12_result 1 = .ok (.iconst 0, 1) := by decide +kernel
theorem dX12_result_2 : decode cX12_result 2 = .ok (.putfield 131, 3) := by decide +kernel
theorem dX12_result_5 : decode cX12_result 5 = .ok (.aload_n 0, 1) := by decide +kernel
theorem dX12_result_6 : decode cX12_result 6 = .ok (.iload_n 1, 1) := by decide +kernel
theorem dX12_result_7 : decode cX12_result 7 = .ok (.iconst 0, 1) := by decide +kernel
theorem dX12_result_8 : decode cX12_result 8 = .ok (.invokevirtual 179, 3) := by decide +kernel
theorem dX12_result_11 : decode cX12_result 11 = .ok (.ifCond .eq 15, 3) := by decide +kernel
theorem dX12_result_14 : decode cX12_result 14 = .ok (.aload_n 0, 1) := by decide +kernel
theorem dX12_result_15 : decode cX12_result 15 = .ok (.getfield 16, 3) := by decide +kernel
theorem dX12_result_18 : decode cX12_result 18 = .ok (.bipush (-2), 2) := by decide +kernel
theorem dX12_result_20 : decode cX12_result 20 = .ok (.iload_n 1, 1) := by decide +kernel
theorem dX12_result_21 : decode cX12_result 21 = .ok (.isub, 1) := by decide +kernel
theorem dX12_result_22 : decode cX12_result 22 = .ok (.iaload, 1) := by decide +kernel
theorem dX12_result_23 : decode cX12_result 23 = .ok (.goto 8, 3) := by decide +kernel
theorem dX12_result_26 : decode cX12_result 26 = .ok (.aload_n 0, 1) := by decide +kernel
theorem dX12_result_27 : decode cX12_result 27 = .ok (.iconst 1, 1) := by decide +kernel
theorem dX12_result_28 : decode cX12_result 28 = .ok (.invokevirtual 257, 3) := by decide +kernel
theorem dX12_result_31 : decode cX12_result 31 = .ok (.ireturn, 1) := by decide +kernel
theorem dX12_kind_0 : decode cX12_kind 0 = .ok (.aload_n 0, 1) := by decide +kernel
theorem dX12_kind_1 : decode cX12_kind 1 = .ok (.iconst 0, 1) := by decide +kernel
theorem dX12_kind_2 : decode cX12_kind 2 = .ok (.putfield 131, 3) := by decide +kernel
theorem dX12_kind_5 : decode cX12_kind 5 = .ok (.aload_n 0, 1) := by decide +kernel
theorem dX12_kind_6 : decode cX12_kind 6 = .ok (.iload_n 1, 1) := by decide +kernel
theorem dX12_kind_7 : decode cX12_kind 7 = .ok (.invokevirtual 138, 3) := by decide +kernel
theorem dX12_kind_10 : decode cX12_kind 10 = .ok (.ifCond .eq 15, 3) := by decide +kernel
theorem dX12_kind_13 : decode cX12_kind 13 = .ok (.aload_n 0, 1) := by decide +kernel
theorem dX12_kind_14 : decode cX12_kind 14 = .ok (.getfield 7, 3) := by decide +kernel
theorem dX12_kind_17 : decode cX12_kind 17 = .ok (.bipush (-2), 2) := by decide +kernel
theorem dX12_kind_19 : decode cX12_kind 19 = .ok (.iload_n 1, 1) := by decide +kernel
theorem dX12_kind_20 : decode cX12_kind 20 = .ok (.isub, 1) := by decide +kernel
theorem dX12_kind_21 : decode cX12_kind 21 = .ok (.iaload, 1) := by decide +kernel
theorem dX12_kind_22 : decode cX12_kind 22 = .ok (.goto 8, 3) := by decide +kernel
theorem dX12_kind_25 : decode cX12_kind 25 = .ok (.aload_n 0, 1) := by decide +kernel
theorem dX12_kind_26 : decode cX12_kind 26 = .ok (.iconst 1, 1) := by decide +kernel
theorem dX12_kind_27 : decode cX12_kind 27 = .ok (.invokevirtual 257, 3) := by decide +kernel
theorem dX12_kind_30 : decode cX12_kind 30 = .ok (.ireturn, 1) := by decide +kernel
theorem dX12_part_0 : decode cX12_part 0 = .ok (.aload_n 0, 1) := by decide +kernel
theorem dX12_part_1 : decode cX12_part 1 = .ok (.iconst 0, 1) := by decide +kernel
theorem dX12_part_2 : decode cX12_part 2 = .ok (.putfield 131, 3) := by decide +kernel
theorem dX12_part_5 : decode cX12_part 5 = .ok (.aload_n 0, 1) := by decide +kernel
theorem dX12_part_6 : decode cX12_part 6 = .ok (.iload_n 1, 1) := by decide +kernel
theorem dX12_part_7 : decode cX12_part 7 = .ok (.invokevirtual 138, 3) := by decide +kernel
theorem dX12_part_10 : decode cX12_part 10 = .ok (.ifCond .ne 9, 3) := by decide +kernel
theorem dX12_part_13 : decode cX12_part 13 = .ok (.aload_n 0, 1) := by decide +kernel
theorem dX12_part_14 : decode cX12_part 14 = .ok (.iconst 1, 1) := by decide +kernel
theorem dX12_part_15 : decode cX12_part 15 = .ok (.invokevirtual 257, 3) := by decide +kernel
theorem dX12_part_18 : decode cX12_part 18 = .ok (.ireturn, 1) := by decide +kernel
theorem dX12_part_19 : decode cX12_part 19 = .ok (.bipush (-2), 2) := by decide +kernel
theorem dX12_part_21 : decode cX12_part 21 = .ok (.iload_n 1, 1) := by decide +kernel
theorem dX12_part_22 : decode cX12_part 22 = .ok (.isub, 1) := by decide +kernel
theorem dX12_part_23 : decode cX12_part 23 = .ok (.istore_n 3, 1) := by decide +kernel
theorem dX12_part_24 : decode cX12_part 24 = .ok (.aload_n 0, 1) := by decide +kernel
theorem dX12_part_25 : decode cX12_part 25 = .ok (.getfield 7, 3) := by decide +kernel
theorem dX12_part_28 : decode cX12_part 28 = .ok (.iload_n 3, 1) := by decide +kernel
theorem dX12_part_29 : decode cX12_part 29 = .ok (.iaload, 1) := by decide +kernel
theorem dX12_part_30 : decode cX12_part 30 = .ok (.iconst 5, 1) := by decide +kernel
theorem dX12_part_31 : decode cX12_part 31 = .ok (.if_icmp .ne 45, 3) := by decide +kernel
theorem dX12_part_34 : decode cX12_part 34 = .ok (.iload_n 2, 1) := by decide +kernel
theorem dX12_part_35 : decode cX12_part 35 = .ok (.iconst (-1), 1) := by decide +kernel
theorem dX12_part_36 : decode cX12_part 36 = .ok (.if_icmp .ne 7, 3) := by decide +kernel
theorem dX12_part_39 : decode cX12_part 39 = .ok (.iconst 2, 1) := by decide +kernel
theorem dX12_part_40 : decode cX12_part 40 = .ok (.goto 35, 3) := by decide +kernel
theorem dX12_part_43 : decode cX12_part 43 = .ok (.iload_n 2, 1) := by decide +kernel
theorem dX12_part_44 : decode cX12_part 44 = .ok (.ifCond .ne 12, 3) := by decide +kernel
theorem dX12_part_47 : decode cX12_part 47 = .ok (.aload_n 0, 1) := by decide +kernel
theorem dX12_part_48 : decode cX12_part 48 = .ok (.getfield 29, 3) := by decide +kernel
theorem dX12_part_51 : decode cX12_part 51 = .ok (.iload_n 3, 1) := by decide +kernel
theorem dX12_part_52 : decode cX12_part 52 = .ok (.iaload, 1) := by decide +kernel
theorem dX12_part_53 : decode cX12_part 53 = .ok (.goto 22, 3) := by decide +kernel
theorem dX12_part_56 : decode cX12_part 56 = .ok (.iload_n 2, 1) := by decide +kernel
theorem dX12_part_57 : decode cX12_part 57 = .ok (.iconst 1, 1) := by decide +kernel
theorem dX12_part_58 : decode cX12_part 58 = .ok (.if_icmp .ne 12, 3) := by decide +kernel
theorem dX12_part_61 : decode cX12_part 61 = .ok (.aload_n 0, 1) := by decide +kernel
theorem dX12_part_62 : decode cX12_part 62 = .ok (.getfield 32, 3) := by decide +kernel
theorem dX12_part_65 : decode cX12_part 65 = .ok (.iload_n 3, 1) := by decide +kernel
theorem dX12_part_66 : decode cX12_part 66 = .ok (.iaload, 1) := by decide +kernel
theorem dX12_part_67 : decode cX12_part 67 = .ok (.goto 8, 3) := by decide +kernel
theorem dX12_part_70 : decode cX12_part 70 = .ok (.aload_n 0, 1) := by decide +kernel
theorem dX12_part_71 : decode cX12_part 71 = .ok (.iconst 1, 1) := by decide +kernel
theorem dX12_part_72 : decode cX12_part 72 = .ok (.invokevirtual 257, 3) := by decide +kernel
theorem dX12_part_75 : decode cX12_part 75 = .ok (.ireturn, 1) := by decide +kernel
theorem dX12_part_76 : decode cX12_part 76 = .ok (.aload_n 0, 1) := by decide +kernel
theorem dX12_part_77 : decode cX12_part 77 = .ok (.getfield 7, 3) := by decide +kernel
theorem dX12_part_80 : decode cX12_part 80 = .ok (.iload_n 3, 1) := by decide +kernel
theorem dX12_part_81 : decode cX12_part 81 = .ok (.iaload, 1) := by decide +kernel
theorem dX12_part_82 : decode cX12_part 82 = .ok (.iconst 4, 1) := by decide +kernel
theorem dX12_part_83 : decode cX12_part 83 = .ok (.if_icmp .eq 13, 3) := by decide +kernel
theorem dX12_part_86 : decode cX12_part 86 = .ok (.aload_n 0, 1) := by decide +kernel
theorem dX12_part_87 : decode cX12_part 87 = .ok (.getfield 7, 3) := by decide +kernel
theorem dX12_part_90 : decode cX12_part 90 = .ok (.iload_n 3, 1) := by decide +kernel
theorem dX12_part_91 : decode cX12_part 91 = .ok (.iaload, 1) := by decide +kernel
theorem dX12_part_92 : decode cX12_part 92 = .ok (.iconst 3, 1) := by decide +kernel
theorem dX12_part_93 : decode cX12_part 93 = .ok (.if_icmp .ne 18, 3) := by decide +kernel
theorem dX12_part_96 : decode cX12_part 96 = .ok (.iload_n 2, 1) := by decide +kernel
theorem dX12_part_97 : decode cX12_part 97 = .ok (.iconst (-1), 1) := by decide +kernel
theorem dX12_part_98 : decode cX12_part 98 = .ok (.if_icmp .lt 13, 3) := by decide +kernel
theorem dX12_part_101 : decode cX12_part 101 = .ok (.iload_n 2, 1) := by decide +kernel
theorem dX12_part_102 : decode cX12_part 102 = .ok (.aload_n 0, 1) := by decide +kernel
theorem dX12_part_103 : decode cX12_part 103 = .ok (.getfield 32, 3) := by decide +kernel
theorem dX12_part_106 : decode cX12_part 106 = .ok (.iload_n 3, 1) := by decide +kernel
theorem dX12_part_107 : decode cX12_part 107 = .ok (.iaload, 1) := by decide +kernel
theorem dX12_part_108 : decode cX12_part 108 = .ok (.if_icmp .lt 9, 3) := by decide +kernel
theorem dX12_part_111 : decode cX12_part 111 = .ok (.aload_n 0, 1) := by decide +kernel
theorem dX12_part_112 : decode cX12_part 112 = .ok (.iconst 1, 1) := by decide +kernel
theorem dX12_part_113 : decode cX12_part 113 = .ok (.invokevirtual 257, 3) := by decide +kernel
theorem dX12_part_116 : decode cX12_part 116 = .ok (.ireturn, 1) := by decide +kernel
theorem dX12_part_117 : decode cX12_part 117 = .ok (.iload_n 2, 1) := by decide +kernel
theorem dX12_part_118 : decode cX12_part 118 = .ok (.iconst (-1), 1) := by decide +kernel
theorem dX12_part_119 : decode cX12_part 119 = .ok (.if_icmp .ne 12, 3) := by decide +kernel
theorem dX12_part_122 : decode cX12_part 122 = .ok (.aload_n 0, 1) := by decide +kernel
theorem dX12_part_123 : decode cX12_part 123 = .ok (.getfield 32, 3) := by decide +kernel
theorem dX12_part_126 : decode cX12_part 126 = .ok (.iload_n 3, 1) := by decide +kernel
theorem dX12_part_127 : decode cX12_part 127 = .ok (.iaload, 1) := by decide +kernel
theorem dX12_part_128 : decode cX12_part 128 = .ok (.goto 16, 3) := by decide +kernel
theorem dX12_part_131 : decode cX12_part 131 = .ok (.aload_n 0, 1) := by decide +kernel
theorem dX12_part_132 : decode cX12_part 132 = .ok (.getfield 101, 3) := by decide +kernel
theorem dX12_part_135 : decode cX12_part 135 = .ok (.aload_n 0, 1) := by decide +kernel
theorem dX12_part_136 : decode cX12_part 136 = .ok (.getfield 29, 3) := by decide +kernel
theorem dX12_part_139 : decode cX12_part 139 = .ok (.iload_n 3, 1) := by decide +kernel
theorem dX12_part_140 : decode cX12_part 140 = .ok (.iaload, 1) := by decide +kernel
theorem dX12_part_141 : decode cX12_part 141 = .ok (.iload_n 2, 1) := by decide +kernel
theorem dX12_part_142 : decode cX12_part 142 = .ok (.iadd, 1) := by decide +kernel
theorem dX12_part_143 : decode cX12_part 143 = .ok (.iaload, 1) := by decide +kernel
theorem dX12_part_144 : decode cX12_part 144 = .ok (.ireturn, 1) := by decide +kernel
theorem dX12_log_0 : decode cX12_log 0 = .ok (.aload_n 0, 1) := by decide +kernel
theorem dX12_log_1 : decode cX12_log 1 = .ok (.iconst 0, 1) := by decide +kernel
theorem dX12_log_2 : decode cX12_log 2 = .ok (.putfield 131, 3) := by decide +kernel
theorem dX12_log_5 : decode cX12_log 5 = .ok (.iload_n 1, 1) := by decide +kernel
theorem dX12_log_6 : decode cX12_log 6 = .ok (.ifCond .lt 11, 3) := by decide +kernel
theorem dX12_log_9 : decode cX12_log 9 = .ok (.iload_n 1, 1) := by decide +kernel
theorem dX12_log_10 : decode cX12_log 10 = .ok (.aload_n 0, 1) := by decide +kernel
theorem dX12_log_11 : decode cX12_log 11 = .ok (.getfield 187, 3) := by decide +kernel
theorem dX12_log_14 : decode cX12_log 14 = .ok (.if_icmp .lt 7, 3) := by decide +kernel
theorem dX12_log_17 : decode cX12_log 17 = .ok (.ldc_w 275, 3) := by decide +kernel
theorem dX12_log_20 : decode cX12_log 20 = .ok (.ireturn, 1) := by decide +kernel
theorem dX12_log_21 : decode cX12_log 21 = .ok (.iload_n 2, 1) := by decide +kernel
theorem dX12_log_22 : decode cX12_log 22 = .ok (.ifCond .eq 12, 3) := by decide +kernel
theorem dX12_log_25 : decode cX12_log 25 = .ok (.aload_n 0, 1) := by decide +kernel
theorem dX12_log_26 : decode cX12_log 26 = .ok (.getfield 95, 3) := by decide +kernel
theorem dX12_log_29 : decode cX12_log 29 = .ok (.iload_n 1, 1) := by decide +kernel
theorem dX12_log_30 : decode cX12_log 30 = .ok (.iaload, 1) := by decide +kernel
theorem dX12_log_31 : decode cX12_log 31 = .ok (.goto 9, 3) := by decide +kernel
theorem dX12_log_34 : decode cX12_log 34 = .ok (.aload_n 0, 1) := by decide +kernel
theorem dX12_log_35 : decode cX12_log 35 = .ok (.getfield 92, 3) := by decide +kernel
theorem dX12_log_38 : decode cX12_log 38 = .ok (.iload_n 1, 1) := by decide +kernel
theorem dX12_log_39 : decode cX12_log 39 = .ok (.iaload, 1) := by decide +kernel
theorem dX12_log_40 : decode cX12_log 40 = .ok (.ireturn, 1) := by decide +kernel
theorem dX12_count_0 : decode cX12_count 0 = .ok (.aload_n 0, 1) := by decide +kernel
theorem dX12_count_1 : decode cX12_count 1 = .ok (.iconst 0, 1) := by decide +kernel
theorem dX12_count_2 : decode cX12_count 2 = .ok (.putfield 131, 3) := by decide +kernel
theorem dX12_count_5 : decode cX12_count 5 = .ok (.iload_n 1, 1) := by decide +kernel
theorem dX12_count_6 : decode cX12_count 6 = .ok (.tableswitch 64 0 4 #[34, 39, 49, 54, 59], 34) := by decide +kernel
theorem dX12_count_40 : decode cX12_count 40 = .ok (.aload_n 0, 1) := by decide +kernel
theorem dX12_count_41 : decode cX12_count 41 = .ok (.getfield 135, 3) := by decide +kernel
theorem dX12_count_44 : decode cX12_count 44 = .ok (.ireturn, 1) := by decide +kernel
theorem dX12_count_45 : decode cX12_count 45 = .ok (.aload_n 0, 1) := by decide +kernel
theorem dX12_count_46 : decode cX12_count 46 = .ok (.getfield 162, 3) := by decide +kernel
theorem dX12_count_49 : decode cX12_count 49 = .ok (.aload_n 0, 1) := by decide +kernel
theorem dX12_count_50 : decode cX12_count 50 = .ok (.getfield 231, 3) := by decide +kernel
theorem dX12_count_53 : decode cX12_count 53 = .ok (.isub, 1) := by decide +kernel
theorem dX12_count_54 : decode cX12_count 54 = .ok (.ireturn, 1) := by decide +kernel
theorem dX12_count_55 : decode cX12_count 55 = .ok (.aload_n 0, 1) := by decide +kernel
theorem dX12_count_56 : decode cX12_count 56 = .ok (.getfield 187, 3) := by decide +kernel
theorem dX12_count_59 : decode cX12_count 59 = .ok (.ireturn, 1) := by decide +kernel
theorem dX12_count_60 : decode cX12_count 60 = .ok (.aload_n 0, 1) := by decide +kernel
theorem dX12_count_61 : decode cX12_count 61 = .ok (.getfield 251, 3) := by decide +kernel
theorem dX12_count_64 : decode cX12_count 64 = .ok (.ireturn, 1) := by decide +kernel
theorem dX12_count_65 : decode cX12_count 65 = .ok (.aload_n 0, 1) := by decide +kernel
theorem dX12_count_66 : decode cX12_count 66 = .ok (.getfield 142, 3) := by decide +kernel
theorem dX12_count_69 : decode cX12_count 69 = .ok (.ireturn, 1) := by decide +kernel
theorem dX12_count_70 : decode cX12_count 70 = .ok (.aload_n 0, 1) := by decide +kernel
theorem dX12_count_71 : decode cX12_count 71 = .ok (.iconst 1, 1) := by decide +kernel
theorem dX12_count_72 : decode cX12_count 72 = .ok (.invokevirtual 257, 3) := by decide +kernel
theorem dX12_count_75 : decode cX12_count 75 = .ok (.ireturn, 1) := by decide +kernel
