theorem d86_0 : decode prog_1_method_26_code 0 = .ok (.aload_n 0, 1) := by decide +kernel
theorem d86_1 : decode prog_1_method_26_code 1 = .ok (.iload_n 1, 1) := by decide +kernel
theorem d86_2 : decode prog_1_method_26_code 2 = .ok (.iload_n 2, 1) := by decide +kernel
theorem d86_3 : decode prog_1_method_26_code 3 = .ok (.invokevirtual 147, 3) := by decide +kernel
theorem d86_6 : decode prog_1_method_26_code 6 = .ok (.ifCond .ne 5, 3) := by decide +kernel
theorem d86_9 : decode prog_1_method_26_code 9 = .ok (.iconst (-1), 1) := by decide +kernel
theorem d86_10 : decode prog_1_method_26_code 10 = .ok (.ireturn, 1) := by decide +kernel
noncomputable def T_86 : Nat → Option xF := bn 3 (bn 1 (bl 0 (x_aload 0 1)) (bn 2 (bl 1 (x_iload 1 2)) (bl 2 (x_iload 2 3)))) (bn 6 (bl 3 (x_invV 11 62 3 6)) (bn 9 (bl 6 (x_if 1 11 9)) (bl 9 (x_const 2147483647 10))))
set_option maxRecDepth 100000 in
set_option maxHeartbeats 4000000 in
theorem T_86_ok (G : State → Nat → Nat → Prop) : xTree PX G prog_1_method_26_code "CapitalCase" false T_86 := (xT_n (xT_n (xT_l (s_aload_n d86_0)) (xT_n (xT_l (s_iload_n d86_1)) (xT_l (s_iload_n d86_2)))) (xT_n (xT_l (s_invV (T := TX11) d86_3 cal_62 rfl wd_850 wd_852 wd_19)) (xT_n (xT_l (s_ifne d86_6 (by decide +kernel))) (xT_l (s_iconst d86_9 (by decide +kernel))))))
set_option maxRecDepth 100000 in
set_option maxHeartbeats 4000000 in
theorem M_86 : xMeth PX 86 (T_86, 4, [(10, 1)]) := ⟨⟨"CapitalCase", "worth", "(II)I"⟩, prog_1_method_26_code, (some .int), rfl, by decide, fun G => T_86_ok G, xrt_ok (xR_c (Or.inl ⟨rfl, d86_10, rfl⟩) (xR_n))⟩
theorem d87_0 : decode prog_1_method_37_code 0 = .ok (.aload_n 0, 1) := by decide +kernel
theorem d87_1 : decode prog_1_method_37_code 1 = .ok (.iload_n 1, 1) := by decide +kernel
theorem d87_2 : decode prog_1_method_37_code 2 = .ok (.iload_n 2, 1) := by decide +kernel
theorem d87_3 : decode prog_1_method_37_code 3 = .ok (.invokevirtual 147, 3) := by decide +kernel
theorem d87_6 : decode prog_1_method_37_code 6 = .ok (.ifCond .eq 26, 3) := by decide +kernel
theorem d87_32 : decode prog_1_method_37_code 32 = .ok (.iconst (-1), 1) := by decide +kernel
theorem d87_33 : decode prog_1_method_37_code 33 = .ok (.ireturn, 1) := by decide +kernel
noncomputable def T_87 : Nat → Option xF := bn 3 (bn 1 (bl 0 (x_aload 0 1)) (bn 2 (bl 1 (x_iload 1 2)) (bl 2 (x_iload 2 3)))) (bn 6 (bl 3 (x_invV 11 62 3 6)) (bn 32 (bl 6 (x_if 0 32 9)) (bl 32 (x_const 2147483647 33))))
set_option maxRecDepth 100000 in
set_option maxHeartbeats 4000000 in
theorem T_87_ok (G : State → Nat → Nat → Prop) : xTree PX G prog_1_method_37_code "CapitalCase" false T_87 := (xT_n (xT_n (xT_l (s_aload_n d87_0)) (xT_n (xT_l (s_iload_n d87_1)) (xT_l (s_iload_n d87_2)))) (xT_n (xT_l (s_invV (T := TX11) d87_3 cal_62 rfl wd_850 wd_852 wd_19)) (xT_n (xT_l (s_ifeq d87_6 (by decide +kernel))) (xT_l (s_iconst d87_32 (by decide +kernel))))))
set_option maxRecDepth 100000 in
set_option maxHeartbeats 4000000 in
theorem M_87 : xMeth PX 87 (T_87, 7, [(33, 1)]) := ⟨⟨"CapitalCase", "year", "(IIII)I"⟩, prog_1_method_37_code, (some .int), rfl, by decide, fun G => T_87_ok G, xrt_ok (xR_c (Or.inl ⟨rfl, d87_33, rfl⟩) (xR_n))⟩
theorem d88_0 : decode prog_14_method_2_code 0 = .ok (.aload_n 0, 1) := by decide +kernel
theorem d88_1 : decode prog_14_method_2_code 1 = .ok (.invokespecial 7, 3) := by decide +kernel
theorem d88_4 : decode prog_14_method_2_code 4 = .ok (.aload_n 0, 1) := by decide +kernel
theorem d88_5 : decode prog_14_method_2_code 5 = .ok (.sipush 2000, 3) := by decide +kernel
theorem d88_8 : decode prog_14_method_2_code 8 = .ok (.newarray .byte, 2) := by decide +kernel
theorem d88_10 : decode prog_14_method_2_code 10 = .ok (.putfield 13, 3) := by decide +kernel
theorem d88_13 : decode prog_14_method_2_code 13 = .ok (.aload_n 0, 1) := by decide +kernel
theorem d88_14 : decode prog_14_method_2_code 14 = .ok (.sipush 2000, 3) := by decide +kernel
theorem d88_17 : decode prog_14_method_2_code 17 = .ok (.newarray .byte, 2) := by decide +kernel
theorem d88_19 : decode prog_14_method_2_code 19 = .ok (.putfield 17, 3) := by decide +kernel
theorem d88_22 : decode prog_14_method_2_code 22 = .ok (.aload_n 0, 1) := by decide +kernel
theorem d88_23 : decode prog_14_method_2_code 23 = .ok (.sipush 403, 3) := by decide +kernel
theorem d88_26 : decode prog_14_method_2_code 26 = .ok (.newarray .int, 2) := by decide +kernel
theorem d88_28 : decode prog_14_method_2_code 28 = .ok (.putfield 20, 3) := by decide +kernel
theorem d88_31 : decode prog_14_method_2_code 31 = .ok (.aload_n 0, 1) := by decide +kernel
theorem d88_32 : decode prog_14_method_2_code 32 = .ok (.sipush 403, 3) := by decide +kernel
theorem d88_35 : decode prog_14_method_2_code 35 = .ok (.newarray .int, 2) := by decide +kernel
theorem d88_37 : decode prog_14_method_2_code 37 = .ok (.putfield 24, 3) := by decide +kernel
theorem d88_40 : decode prog_14_method_2_code 40 = .ok (.aload_n 0, 1) := by decide +kernel
theorem d88_41 : decode prog_14_method_2_code 41 = .ok (.sipush 403, 3) := by decide +kernel
theorem d88_44 : decode prog_14_method_2_code 44 = .ok (.newarray .int, 2) := by decide +kernel
theorem d88_46 : decode prog_14_method_2_code 46 = .ok (.putfield 27, 3) := by decide +kernel
theorem d88_49 : decode prog_14_method_2_code 49 = .ok (.aload_n 0, 1) := by decide +kernel
theorem d88_50 : decode prog_14_method_2_code 50 = .ok (.sipush 403, 3) := by decide +kernel
theorem d88_53 : decode prog_14_method_2_code 53 = .ok (.newarray .long, 2) := by decide +kernel
theorem d88_55 : decode prog_14_method_2_code 55 = .ok (.putfield 30, 3) := by decide +kernel
theorem d88_58 : decode prog_14_method_2_code 58 = .ok (.aload_n 0, 1) := by decide +kernel
theorem d88_59 : decode prog_14_method_2_code 59 = .ok (.bipush 21, 2) := by decide +kernel
theorem d88_61 : decode prog_14_method_2_code 61 = .ok (.newarray .long, 2) := by decide +kernel
theorem d88_63 : decode prog_14_method_2_code 63 = .ok (.putfield 34, 3) := by decide +kernel
theorem d88_66 : decode prog_14_method_2_code 66 = .ok (.aload_n 0, 1) := by decide +kernel
theorem d88_67 : decode prog_14_method_2_code 67 = .ok (.iconst (-1), 1) := by decide +kernel
theorem d88_68 : decode prog_14_method_2_code 68 = .ok (.putfield 37, 3) := by decide +kernel
theorem d88_71 : decode prog_14_method_2_code 71 = .ok (.aload_n 0, 1) := by decide +kernel
theorem d88_72 : decode prog_14_method_2_code 72 = .ok (.bipush 12, 2) := by decide +kernel
theorem d88_74 : decode prog_14_method_2_code 74 = .ok (.newarray .long, 2) := by decide +kernel
theorem d88_76 : decode prog_14_method_2_code 76 = .ok (.putfield 40, 3) := by decide +kernel
theorem d88_79 : decode prog_14_method_2_code 79 = .ok (.aload_n 0, 1) := by decide +kernel
theorem d88_80 : decode prog_14_method_2_code 80 = .ok (.iconst 2, 1) := by decide +kernel
theorem d88_81 : decode prog_14_method_2_code 81 = .ok (.newarray .int, 2) := by decide +kernel
theorem d88_83 : decode prog_14_method_2_code 83 = .ok (.putfield 43, 3) := by decide +kernel
theorem d88_86 : decode prog_14_method_2_code 86 = .ok (.aload_n 0, 1) := by decide +kernel
theorem d88_87 : decode prog_14_method_2_code 87 = .ok (.bipush 80, 2) := by decide +kernel
theorem d88_89 : decode prog_14_method_2_code 89 = .ok (.newarray .int, 2) := by decide +kernel
theorem d88_91 : decode prog_14_method_2_code 91 = .ok (.putfield 46, 3) := by decide +kernel
theorem d88_94 : decode prog_14_method_2_code 94 = .ok (.aload_n 0, 1) := by decide +kernel
theorem d88_95 : decode prog_14_method_2_code 95 = .ok (.iconst 2, 1) := by decide +kernel
theorem d88_96 : decode prog_14_method_2_code 96 = .ok (.newarray .int, 2) := by decide +kernel
theorem d88_98 : decode prog_14_method_2_code 98 = .ok (.putfield 49, 3) := by decide +kernel
theorem d88_101 : decode prog_14_method_2_code 101 = .ok (.aload_n 0, 1) := by decide +kernel
theorem d88_102 : decode prog_14_method_2_code 102 = .ok (.bipush 14, 2) := by decide +kernel
theorem d88_104 : decode prog_14_method_2_code 104 = .ok (.newarray .int, 2) := by decide +kernel
theorem d88_106 : decode prog_14_method_2_code 106 = .ok (.putfield 52, 3) := by decide +kernel
theorem d88_109 : decode prog_14_method_2_code 109 = .ok (.aload_n 0, 1) := by decide +kernel
theorem d88_110 : decode prog_14_method_2_code 110 = .ok (.bipush 112, 2) := by decide +kernel
theorem d88_112 : decode prog_14_method_2_code 112 = .ok (.newarray .int, 2) := by decide +kernel
theorem d88_114 : decode prog_14_method_2_code 114 = .ok (.putfield 55, 3) := by decide +kernel
theorem d88_117 : decode prog_14_method_2_code 117 = .ok (.aload_n 0, 1) := by decide +kernel
theorem d88_118 : decode prog_14_method_2_code 118 = .ok (.bipush 14, 2) := by decide +kernel
theorem d88_120 : decode prog_14_method_2_code 120 = .ok (.newarray .int, 2) := by decide +kernel
theorem d88_122 : decode prog_14_method_2_code 122 = .ok (.putfield 58, 3) := by decide +kernel
theorem d88_125 : decode prog_14_method_2_code 125 = .ok (.aload_n 0, 1) := by decide +kernel
theorem d88_126 : decode prog_14_method_2_code 126 = .ok (.bipush 14, 2) := by decide +kernel
theorem d88_128 : decode prog_14_method_2_code 128 = .ok (.newarray .int, 2) := by decide +kernel
theorem d88_130 : decode prog_14_method_2_code 130 = .ok (.putfield 61, 3) := by decide +kernel
theorem d88_133 : decode prog_14_method_2_code 133 = .ok (.aload_n 0, 1) := by decide +kernel
theorem d88_134 : decode prog_14_method_2_code 134 = .ok (.iconst 2, 1) := by decide +kernel
theorem d88_135 : decode prog_14_method_2_code 135 = .ok (.newarray .int, 2) := by decide +kernel
theorem d88_137 : decode prog_14_method_2_code 137 = .ok (.putfield 64, 3) := by decide +kernel
theorem d88_140 : decode prog_14_method_2_code 140 = .ok (.aload_n 0, 1) := by decide +kernel
theorem d88_141 : decode prog_14_method_2_code 141 = .ok (.iconst 2, 1) := by decide +kernel
theorem d88_142 : decode prog_14_method_2_code 142 = .ok (.newarray .int, 2) := by decide +kernel
theorem d88_144 : decode prog_14_method_2_code 144 = .ok (.putfield 67, 3) := by decide +kernel
theorem d88_147 : decode prog_14_method_2_code 147 = .ok (.aload_n 0, 1) := by decide +kernel
theorem d88_148 : decode prog_14_method_2_code 148 = .ok (.iconst 2, 1) := by decide +kernel
theorem d88_149 : decode prog_14_method_2_code 149 = .ok (.newarray .int, 2) := by decide +kernel
theorem d88_151 : decode prog_14_method_2_code 151 = .ok (.putfield 70, 3) := by decide +kernel
theorem d88_154 : decode prog_14_method_2_code 154 = .ok (.aload_n 0, 1) := by decide +kernel
theorem d88_155 : decode prog_14_method_2_code 155 = .ok (.bipush 8, 2) := by decide +kernel
theorem d88_157 : decode prog_14_method_2_code 157 = .ok (.newarray .int, 2) := by decide +kernel
theorem d88_159 : decode prog_14_method_2_code 159 = .ok (.putfield 73, 3) := by decide +kernel
theorem d88_162 : decode prog_14_method_2_code 162 = .ok (.aload_n 0, 1) := by decide +kernel
theorem d88_163 : decode prog_14_method_2_code 163 = .ok (.bipush 8, 2) := by decide +kernel
theorem d88_165 : decode prog_14_method_2_code 165 = .ok (.newarray .int, 2) := by decide +kernel
theorem d88_167 : decode prog_14_method_2_code 167 = .ok (.putfield 76, 3) := by decide +kernel
theorem d88_170 : decode prog_14_method_2_code 170 = .ok (.aload_n 0, 1) := by decide +kernel
theorem d88_171 : decode prog_14_method_2_code 171 = .ok (.sipush 260, 3) := by decide +kernel
theorem d88_174 : decode prog_14_method_2_code 174 = .ok (.newarray .boolean, 2) := by decide +kernel
theorem d88_176 : decode prog_14_method_2_code 176 = .ok (.putfield 79, 3) := by decide +kernel
theorem d88_179 : decode prog_14_method_2_code 179 = .ok (.aload_n 0, 1) := by decide +kernel
theorem d88_180 : decode prog_14_method_2_code 180 = .ok (.sipush 260, 3) := by decide +kernel
theorem d88_183 : decode prog_14_method_2_code 183 = .ok (.newarray .int, 2) := by decide +kernel
theorem d88_185 : decode prog_14_method_2_code 185 = .ok (.putfield 83, 3) := by decide +kernel
theorem d88_188 : decode prog_14_method_2_code 188 = .ok (.aload_n 0, 1) := by decide +kernel
theorem d88_189 : decode prog_14_method_2_code 189 = .ok (.sipush 260, 3) := by decide +kernel
theorem d88_192 : decode prog_14_method_2_code 192 = .ok (.newarray .int, 2) := by decide +kernel
theorem d88_194 : decode prog_14_method_2_code 194 = .ok (.putfield 86, 3) := by decide +kernel
theorem d88_197 : decode prog_14_method_2_code 197 = .ok (.aload_n 0, 1) := by decide +kernel
theorem d88_198 : decode prog_14_method_2_code 198 = .ok (.sipush 260, 3) := by decide +kernel
theorem d88_201 : decode prog_14_method_2_code 201 = .ok (.newarray .int, 2) := by decide +kernel
theorem d88_203 : decode prog_14_method_2_code 203 = .ok (.putfield 89, 3) := by decide +kernel
theorem d88_206 : decode prog_14_method_2_code 206 = .ok (.aload_n 0, 1) := by decide +kernel
theorem d88_207 : decode prog_14_method_2_code 207 = .ok (.sipush 260, 3) := by decide +kernel
theorem d88_210 : decode prog_14_method_2_code 210 = .ok (.newarray .int, 2) := by decide +kernel
theorem d88_212 : decode prog_14_method_2_code 212 = .ok (.putfield 92, 3) := by decide +kernel
theorem d88_215 : decode prog_14_method_2_code 215 = .ok (.aload_n 0, 1) := by decide +kernel
theorem d88_216 : decode prog_14_method_2_code 216 = .ok (.sipush 840, 3) := by decide +kernel
theorem d88_219 : decode prog_14_method_2_code 219 = .ok (.newarray .int, 2) := by decide +kernel
theorem d88_221 : decode prog_14_method_2_code 221 = .ok (.putfield 95, 3) := by decide +kernel
theorem d88_224 : decode prog_14_method_2_code 224 = .ok (.aload_n 0, 1) := by decide +kernel
theorem d88_225 : decode prog_14_method_2_code 225 = .ok (.sipush 840, 3) := by decide +kernel
theorem d88_228 : decode prog_14_method_2_code 228 = .ok (.newarray .int, 2) := by decide +kernel
theorem d88_230 : decode prog_14_method_2_code 230 = .ok (.putfield 98, 3) := by decide +kernel
theorem d88_233 : decode prog_14_method_2_code 233 = .ok (.aload_n 0, 1) := by decide +kernel
theorem d88_234 : decode prog_14_method_2_code 234 = .ok (.bipush 8, 2) := by decide +kernel
theorem d88_236 : decode prog_14_method_2_code 236 = .ok (.newarray .int, 2) := by decide +kernel
theorem d88_238 : decode prog_14_method_2_code 238 = .ok (.putfield 101, 3) := by decide +kernel
theorem d88_241 : decode prog_14_method_2_code 241 = .ok (.aload_n 0, 1) := by decide +kernel
theorem d88_242 : decode prog_14_method_2_code 242 = .ok (.bipush 64, 2) := by decide +kernel
theorem d88_244 : decode prog_14_method_2_code 244 = .ok (.newarray .int, 2) := by decide +kernel
theorem d88_246 : decode prog_14_method_2_code 246 = .ok (.putfield 104, 3) := by decide +kernel
theorem d88_249 : decode prog_14_method_2_code 249 = .ok (.aload_n 0, 1) := by decide +kernel
theorem d88_250 : decode prog_14_method_2_code 250 = .ok (.bipush 9, 2) := by decide +kernel
theorem d88_252 : decode prog_14_method_2_code 252 = .ok (.newarray .int, 2) := by decide +kernel
theorem d88_254 : decode prog_14_method_2_code 254 = .ok (.putfield 107, 3) := by decide +kernel
theorem d88_257 : decode prog_14_method_2_code 257 = .ok (.aload_n 0, 1) := by decide +kernel
theorem d88_258 : decode prog_14_method_2_code 258 = .ok (.sipush 400, 3) := by decide +kernel
theorem d88_261 : decode prog_14_method_2_code 261 = .ok (.newarray .int, 2) := by decide +kernel
theorem d88_263 : decode prog_14_method_2_code 263 = .ok (.putfield 110, 3) := by decide +kernel
theorem d88_266 : decode prog_14_method_2_code 266 = .ok (.aload_n 0, 1) := by decide +kernel
theorem d88_267 : decode prog_14_method_2_code 267 = .ok (.sipush 390, 3) := by decide +kernel
theorem d88_270 : decode prog_14_method_2_code 270 = .ok (.newarray .int, 2) := by decide +kernel
theorem d88_272 : decode prog_14_method_2_code 272 = .ok (.putfield 113, 3) := by decide +kernel
theorem d88_275 : decode prog_14_method_2_code 275 = .ok (.aload_n 0, 1) := by decide +kernel
theorem d88_276 : decode prog_14_method_2_code 276 = .ok (.sipush 390, 3) := by decide +kernel
theorem d88_279 : decode prog_14_method_2_code 279 = .ok (.newarray .int, 2) := by decide +kernel
theorem d88_281 : decode prog_14_method_2_code 281 = .ok (.putfield 116, 3) := by decide +kernel
theorem d88_284 : decode prog_14_method_2_code 284 = .ok (.aload_n 0, 1) := by decide +kernel
theorem d88_285 : decode prog_14_method_2_code 285 = .ok (.bipush 40, 2) := by decide +kernel
theorem d88_287 : decode prog_14_method_2_code 287 = .ok (.newarray .boolean, 2) := by decide +kernel
theorem d88_289 : decode prog_14_method_2_code 289 = .ok (.putfield 119, 3) := by decide +kernel
theorem d88_292 : decode prog_14_method_2_code 292 = .ok (.aload_n 0, 1) := by decide +kernel
theorem d88_293 : decode prog_14_method_2_code 293 = .ok (.bipush 40, 2) := by decide +kernel
theorem d88_295 : decode prog_14_method_2_code 295 = .ok (.newarray .int, 2) := by decide +kernel
theorem d88_297 : decode prog_14_method_2_code 297 = .ok (.putfield 122, 3) := by decide +kernel
theorem d88_300 : decode prog_14_method_2_code 300 = .ok (.aload_n 0, 1) := by decide +kernel
theorem d88_301 : decode prog_14_method_2_code 301 = .ok (.bipush 7, 2) := by decide +kernel
theorem d88_303 : decode prog_14_method_2_code 303 = .ok (.newarray .int, 2) := by decide +kernel
theorem d88_305 : decode prog_14_method_2_code 305 = .ok (.putfield 125, 3) := by decide +kernel
theorem d88_308 : decode prog_14_method_2_code 308 = .ok (.aload_n 0, 1) := by decide +kernel
theorem d88_309 : decode prog_14_method_2_code 309 = .ok (.sipush 11700, 3) := by decide +kernel
theorem d88_312 : decode prog_14_method_2_code 312 = .ok (.newarray .int, 2) := by decide +kernel
theorem d88_314 : decode prog_14_method_2_code 314 = .ok (.putfield 128, 3) := by decide +kernel
theorem d88_317 : decode prog_14_method_2_code 317 = .ok (.aload_n 0, 1) := by decide +kernel
theorem d88_318 : decode prog_14_method_2_code 318 = .ok (.sipush 390, 3) := by decide +kernel
theorem d88_321 : decode prog_14_method_2_code 321 = .ok (.newarray .int, 2) := by decide +kernel
theorem d88_323 : decode prog_14_method_2_code 323 = .ok (.putfield 131, 3) := by decide +kernel
theorem d88_326 : decode prog_14_method_2_code 326 = .ok (.aload_n 0, 1) := by decide +kernel
theorem d88_327 : decode prog_14_method_2_code 327 = .ok (.bipush 20, 2) := by decide +kernel
theorem d88_329 : decode prog_14_method_2_code 329 = .ok (.newarray .int, 2) := by decide +kernel
theorem d88_331 : decode prog_14_method_2_code 331 = .ok (.putfield 134, 3) := by decide +kernel
theorem d88_334 : decode prog_14_method_2_code 334 = .ok (.aload_n 0, 1) := by decide +kernel
theorem d88_335 : decode prog_14_method_2_code 335 = .ok (.bipush 20, 2) := by decide +kernel
theorem d88_337 : decode prog_14_method_2_code 337 = .ok (.newarray .int, 2) := by decide +kernel
theorem d88_339 : decode prog_14_method_2_code 339 = .ok (.putfield 137, 3) := by decide +kernel
theorem d88_342 : decode prog_14_method_2_code 342 = .ok (.aload_n 0, 1) := by decide +kernel
theorem d88_343 : decode prog_14_method_2_code 343 = .ok (.bipush 20, 2) := by decide +kernel
theorem d88_345 : decode prog_14_method_2_code 345 = .ok (.newarray .boolean, 2) := by decide +kernel
theorem d88_347 : decode prog_14_method_2_code 347 = .ok (.putfield 140, 3) := by decide +kernel
theorem d88_350 : decode prog_14_method_2_code 350 = .ok (.aload_n 0, 1) := by decide +kernel
theorem d88_351 : decode prog_14_method_2_code 351 = .ok (.iconst 3, 1) := by decide +kernel
theorem d88_352 : decode prog_14_method_2_code 352 = .ok (.newarray .boolean, 2) := by decide +kernel
theorem d88_354 : decode prog_14_method_2_code 354 = .ok (.putfield 143, 3) := by decide +kernel
theorem d88_357 : decode prog_14_method_2_code 357 = .ok (.aload_n 0, 1) := by decide +kernel
theorem d88_358 : decode prog_14_method_2_code 358 = .ok (.sipush 1170, 3) := by decide +kernel
theorem d88_361 : decode prog_14_method_2_code 361 = .ok (.newarray .int, 2) := by decide +kernel
theorem d88_363 : decode prog_14_method_2_code 363 = .ok (.putfield 146, 3) := by decide +kernel
theorem d88_366 : decode prog_14_method_2_code 366 = .ok (.aload_n 0, 1) := by decide +kernel
theorem d88_367 : decode prog_14_method_2_code 367 = .ok (.iconst 0, 1) := by decide +kernel
theorem d88_368 : decode prog_14_method_2_code 368 = .ok (.invokevirtual 149, 3) := by decide +kernel
theorem d88_371 : decode prog_14_method_2_code 371 = .ok (.aload_n 0, 1) := by decide +kernel
theorem d88_372 : decode prog_14_method_2_code 372 = .ok (.getfield 34, 3) := by decide +kernel
theorem d88_375 : decode prog_14_method_2_code 375 = .ok (.iconst 0, 1) := by decide +kernel
theorem d88_376 : decode prog_14_method_2_code 376 = .ok (.bipush 104, 2) := by decide +kernel
theorem d88_378 : decode prog_14_method_2_code 378 = .ok (.bipush 111, 2) := by decide +kernel
theorem d88_380 : decode prog_14_method_2_code 380 = .ok (.bipush 117, 2) := by decide +kernel
theorem d88_382 : decode prog_14_method_2_code 382 = .ok (.bipush 115, 2) := by decide +kernel
theorem d88_384 : decode prog_14_method_2_code 384 = .ok (.bipush 101, 2) := by decide +kernel
theorem d88_386 : decode prog_14_method_2_code 386 = .ok (.iconst 0, 1) := by decide +kernel
theorem d88_387 : decode prog_14_method_2_code 387 = .ok (.iconst 0, 1) := by decide +kernel
theorem d88_388 : decode prog_14_method_2_code 388 = .ok (.invokestatic 153, 3) := by decide +kernel
theorem d88_391 : decode prog_14_method_2_code 391 = .ok (.lastore, 1) := by decide +kernel
theorem d88_392 : decode prog_14_method_2_code 392 = .ok (.aload_n 0, 1) := by decide +kernel
theorem d88_393 : decode prog_14_method_2_code 393 = .ok (.getfield 34, 3) := by decide +kernel
theorem d88_396 : decode prog_14_method_2_code 396 = .ok (.iconst 1, 1) := by decide +kernel
theorem d88_397 : decode prog_14_method_2_code 397 = .ok (.bipush 118, 2) := by decide +kernel
theorem d88_399 : decode prog_14_method_2_code 399 = .ok (.bipush 101, 2) := by decide +kernel
theorem d88_401 : decode prog_14_method_2_code 401 = .ok (.bipush 114, 2) := by decide +kernel
theorem d88_403 : decode prog_14_method_2_code 403 = .ok (.bipush 115, 2) := by decide +kernel
theorem d88_405 : decode prog_14_method_2_code 405 = .ok (.bipush 101, 2) := by decide +kernel
theorem d88_407 : decode prog_14_method_2_code 407 = .ok (.iconst 0, 1) := by decide +kernel
theorem d88_408 : decode prog_14_method_2_code 408 = .ok (.iconst 0, 1) := by decide +kernel
theorem d88_409 : decode prog_14_method_2_code 409 = .ok (.invokestatic 153, 3) := by decide +kernel
theorem d88_412 : decode prog_14_method_2_code 412 = .ok (.lastore, 1) := by decide +kernel
theorem d88_413 : decode prog_14_method_2_code 413 = .ok (.aload_n 0, 1) := by decide +kernel
theorem d88_414 : decode prog_14_method_2_code 414 = .ok (.getfield 34, 3) := by decide +kernel
theorem d88_417 : decode prog_14_method_2_code 417 = .ok (.iconst 2, 1) := by decide +kernel
theorem d88_418 : decode prog_14_method_2_code 418 = .ok (.bipush 108, 2) := by decide +kernel
theorem d88_420 : decode prog_14_method_2_code 420 = .ok (.bipush 101, 2) := by decide +kernel
theorem d88_422 : decode prog_14_method_2_code 422 = .ok (.bipush 97, 2) := by decide +kernel
theorem d88_424 : decode prog_14_method_2_code 424 = .ok (.bipush 118, 2) := by decide +kernel
theorem d88_426 : decode prog_14_method_2_code 426 = .ok (.bipush 101, 2) := by decide +kernel
theorem d88_428 : decode prog_14_method_2_code 428 = .ok (.iconst 0, 1) := by decide +kernel
theorem d88_429 : decode prog_14_method_2_code 429 = .ok (.iconst 0, 1) := by decide +kernel
theorem d88_430 : decode prog_14_method_2_code 430 = .ok (.invokestatic 153, 3) := by decide +kernel
theorem d88_433 : decode prog_14_method_2_code 433 = .ok (.lastore, 1) := by decide +kernel
theorem d88_434 : decode prog_14_method_2_code 434 = .ok (.aload_n 0, 1) := by decide +kernel
theorem d88_435 : decode prog_14_method_2_code 435 = .ok (.getfield 34, 3) := by decide +kernel
theorem d88_438 : decode prog_14_method_2_code 438 = .ok (.iconst 3, 1) := by decide +kernel
theorem d88_439 : decode prog_14_method_2_code 439 = .ok (.bipush 114, 2) := by decide +kernel
theorem d88_441 : decode prog_14_method_2_code 441 = .ok (.bipush 97, 2) := by decide +kernel
theorem d88_443 : decode prog_14_method_2_code 443 = .ok (.bipush 110, 2) := by decide +kernel
theorem d88_445 : decode prog_14_method_2_code 445 = .ok (.bipush 107, 2) := by decide +kernel
theorem d88_447 : decode prog_14_method_2_code 447 = .ok (.iconst 0, 1) := by decide +kernel
theorem d88_448 : decode prog_14_method_2_code 448 = .ok (.iconst 0, 1) := by decide +kernel
theorem d88_449 : decode prog_14_method_2_code 449 = .ok (.iconst 0, 1) := by decide +kernel
theorem d88_450 : decode prog_14_method_2_code 450 = .ok (.invokestatic 153, 3) := by decide +kernel
theorem d88_453 : decode prog_14_method_2_code 453 = .ok (.lastore, 1) := by decide +kernel
theorem d88_454 : decode prog_14_method_2_code 454 = .ok (.aload_n 0, 1) := by decide +kernel
theorem d88_455 : decode prog_14_method_2_code 455 = .ok (.getfield 34, 3) := by decide +kernel
theorem d88_458 : decode prog_14_method_2_code 458 = .ok (.iconst 4, 1) := by decide +kernel
theorem d88_459 : decode prog_14_method_2_code 459 = .ok (.bipush 119, 2) := by decide +kernel
theorem d88_461 : decode prog_14_method_2_code 461 = .ok (.bipush 101, 2) := by decide +kernel
theorem d88_463 : decode prog_14_method_2_code 463 = .ok (.bipush 97, 2) := by decide +kernel
theorem d88_465 : decode prog_14_method_2_code 465 = .ok (.bipush 114, 2) := by decide +kernel
theorem d88_467 : decode prog_14_method_2_code 467 = .ok (.bipush 115, 2) := by decide +kernel
theorem d88_469 : decode prog_14_method_2_code 469 = .ok (.iconst 0, 1) := by decide +kernel
theorem d88_470 : decode prog_14_method_2_code 470 = .ok (.iconst 0, 1) := by decide +kernel
theorem d88_471 : decode prog_14_method_2_code 471 = .ok (.invokestatic 153, 3) := by decide +kernel
theorem d88_474 : decode prog_14_method_2_code 474 = .ok (.lastore, 1) := by decide +kernel
theorem d88_475 : decode prog_14_method_2_code 475 = .ok (.aload_n 0, 1) := by decide +kernel
theorem d88_476 : decode prog_14_method_2_code 476 = .ok (.getfield 34, 3) := by decide +kernel
theorem d88_479 : decode prog_14_method_2_code 479 = .ok (.iconst 5, 1) := by decide +kernel
theorem d88_480 : decode prog_14_method_2_code 480 = .ok (.bipush 112, 2) := by decide +kernel
theorem d88_482 : decode prog_14_method_2_code 482 = .ok (.bipush 97, 2) := by decide +kernel
theorem d88_484 : decode prog_14_method_2_code 484 = .ok (.bipush 121, 2) := by decide +kernel
theorem d88_486 : decode prog_14_method_2_code 486 = .ok (.bipush 115, 2) := by decide +kernel
theorem d88_488 : decode prog_14_method_2_code 488 = .ok (.iconst 0, 1) := by decide +kernel
theorem d88_489 : decode prog_14_method_2_code 489 = .ok (.iconst 0, 1) := by decide +kernel
theorem d88_490 : decode prog_14_method_2_code 490 = .ok (.iconst 0, 1) := by decide +kernel
theorem d88_491 : decode prog_14_method_2_code 491 = .ok (.invokestatic 153, 3) := by decide +kernel
theorem d88_494 : decode prog_14_method_2_code 494 = .ok (.lastore, 1) := by decide +kernel
theorem d88_495 : decode prog_14_method_2_code 495 = .ok (.aload_n 0, 1) := by decide +kernel
theorem d88_496 : decode prog_14_method_2_code 496 = .ok (.getfield 34, 3) := by decide +kernel
theorem d88_499 : decode prog_14_method_2_code 499 = .ok (.bipush 6, 2) := by decide +kernel
theorem d88_501 : decode prog_14_method_2_code 501 = .ok (.bipush 115, 2) := by decide +kernel
theorem d88_503 : decode prog_14_method_2_code 503 = .ok (.bipush 112, 2) := by decide +kernel
theorem d88_505 : decode prog_14_method_2_code 505 = .ok (.bipush 111, 2) := by decide +kernel
theorem d88_507 : decode prog_14_method_2_code 507 = .ok (.bipush 105, 2) := by decide +kernel
theorem d88_509 : decode prog_14_method_2_code 509 = .ok (.bipush 108, 2) := by decide +kernel
theorem d88_511 : decode prog_14_method_2_code 511 = .ok (.bipush 115, 2) := by decide +kernel
theorem d88_513 : decode prog_14_method_2_code 513 = .ok (.iconst 0, 1) := by decide +kernel
theorem d88_514 : decode prog_14_method_2_code 514 = .ok (.invokestatic 153, 3) := by decide +kernel
theorem d88_517 : decode prog_14_method_2_code 517 = .ok (.lastore, 1) := by decide +kernel
theorem d88_518 : decode prog_14_method_2_code 518 = .ok (.aload_n 0, 1) := by decide +kernel
theorem d88_519 : decode prog_14_method_2_code 519 = .ok (.getfield 34, 3) := by decide +kernel
theorem d88_522 : decode prog_14_method_2_code 522 = .ok (.bipush 7, 2) := by decide +kernel
theorem d88_524 : decode prog_14_method_2_code 524 = .ok (.bipush 116, 2) := by decide +kernel
theorem d88_526 : decode prog_14_method_2_code 526 = .ok (.bipush 104, 2) := by decide +kernel
theorem d88_528 : decode prog_14_method_2_code 528 = .ok (.bipush 105, 2) := by decide +kernel
theorem d88_530 : decode prog_14_method_2_code 530 = .ok (.bipush 101, 2) := by decide +kernel
theorem d88_532 : decode prog_14_method_2_code 532 = .ok (.bipush 118, 2) := by decide +kernel
theorem d88_534 : decode prog_14_method_2_code 534 = .ok (.bipush 101, 2) := by decide +kernel
theorem d88_536 : decode prog_14_method_2_code 536 = .ok (.bipush 115, 2) := by decide +kernel
theorem d88_538 : decode prog_14_method_2_code 538 = .ok (.invokestatic 153, 3) := by decide +kernel
theorem d88_541 : decode prog_14_method_2_code 541 = .ok (.lastore, 1) := by decide +kernel
theorem d88_542 : decode prog_14_method_2_code 542 = .ok (.aload_n 0, 1) := by decide +kernel
theorem d88_543 : decode prog_14_method_2_code 543 = .ok (.getfield 34, 3) := by decide +kernel
theorem d88_546 : decode prog_14_method_2_code 546 = .ok (.bipush 8, 2) := by decide +kernel
theorem d88_548 : decode prog_14_method_2_code 548 = .ok (.bipush 115, 2) := by decide +kernel
theorem d88_550 : decode prog_14_method_2_code 550 = .ok (.bipush 101, 2) := by decide +kernel
theorem d88_552 : decode prog_14_method_2_code 552 = .ok (.bipush 101, 2) := by decide +kernel
theorem d88_554 : decode prog_14_method_2_code 554 = .ok (.bipush 100, 2) := by decide +kernel
theorem d88_556 : decode prog_14_method_2_code 556 = .ok (.iconst 0, 1) := by decide +kernel
theorem d88_557 : decode prog_14_method_2_code 557 = .ok (.iconst 0, 1) := by decide +kernel
theorem d88_558 : decode prog_14_method_2_code 558 = .ok (.iconst 0, 1) := by decide +kernel
theorem d88_559 : decode prog_14_method_2_code 559 = .ok (.invokestatic 153, 3) := by decide +kernel
theorem d88_562 : decode prog_14_method_2_code 562 = .ok (.lastore, 1) := by decide +kernel
theorem d88_563 : decode prog_14_method_2_code 563 = .ok (.aload_n 0, 1) := by decide +kernel
theorem d88_564 : decode prog_14_method_2_code 564 = .ok (.getfield 34, 3) := by decide +kernel
theorem d88_567 : decode prog_14_method_2_code 567 = .ok (.bipush 9, 2) := by decide +kernel
theorem d88_569 : decode prog_14_method_2_code 569 = .ok (.bipush 105, 2) := by decide +kernel
theorem d88_571 : decode prog_14_method_2_code 571 = .ok (.bipush 102, 2) := by decide +kernel
theorem d88_573 : decode prog_14_method_2_code 573 = .ok (.iconst 0, 1) := by decide +kernel
theorem d88_574 : decode prog_14_method_2_code 574 = .ok (.iconst 0, 1) := by decide +kernel
theorem d88_575 : decode prog_14_method_2_code 575 = .ok (.iconst 0, 1) := by decide +kernel
theorem d88_576 : decode prog_14_method_2_code 576 = .ok (.iconst 0, 1) := by decide +kernel
theorem d88_577 : decode prog_14_method_2_code 577 = .ok (.iconst 0, 1) := by decide +kernel
theorem d88_578 : decode prog_14_method_2_code 578 = .ok (.invokestatic 153, 3) := by decide +kernel
theorem d88_581 : decode prog_14_method_2_code 581 = .ok (.lastore, 1) := by decide +kernel
theorem d88_582 : decode prog_14_method_2_code 582 = .ok (.aload_n 0, 1) := by decide +kernel
theorem d88_583 : decode prog_14_method_2_code 583 = .ok (.getfield 34, 3) := by decide +kernel
theorem d88_586 : decode prog_14_method_2_code 586 = .ok (.bipush 10, 2) := by decide +kernel
theorem d88_588 : decode prog_14_method_2_code 588 = .ok (.bipush 116, 2) := by decide +kernel
theorem d88_590 : decode prog_14_method_2_code 590 = .ok (.bipush 104, 2) := by decide +kernel
theorem d88_592 : decode prog_14_method_2_code 592 = .ok (.bipush 101, 2) := by decide +kernel
theorem d88_594 : decode prog_14_method_2_code 594 = .ok (.bipush 110, 2) := by decide +kernel
theorem d88_596 : decode prog_14_method_2_code 596 = .ok (.iconst 0, 1) := by decide +kernel
theorem d88_597 : decode prog_14_method_2_code 597 = .ok (.iconst 0, 1) := by decide +kernel
theorem d88_598 : decode prog_14_method_2_code 598 = .ok (.iconst 0, 1) := by decide +kernel
theorem d88_599 : decode prog_14_method_2_code 599 = .ok (.invokestatic 153, 3) := by decide +kernel
theorem d88_602 : decode prog_14_method_2_code 602 = .ok (.lastore, 1) := by decide +kernel
theorem d88_603 : decode prog_14_method_2_code 603 = .ok (.aload_n 0, 1) := by decide +kernel
theorem d88_604 : decode prog_14_method_2_code 604 = .ok (.getfield 34, 3) := by decide +kernel
theorem d88_607 : decode prog_14_method_2_code 607 = .ok (.bipush 11, 2) := by decide +kernel
theorem d88_609 : decode prog_14_method_2_code 609 = .ok (.bipush 101, 2) := by decide +kernel
theorem d88_611 : decode prog_14_method_2_code 611 = .ok (.bipush 108, 2) := by decide +kernel
theorem d88_613 : decode prog_14_method_2_code 613 = .ok (.bipush 115, 2) := by decide +kernel
theorem d88_615 : decode prog_14_method_2_code 615 = .ok (.bipush 101, 2) := by decide +kernel
theorem d88_617 : decode prog_14_method_2_code 617 = .ok (.iconst 0, 1) := by decide +kernel
theorem d88_618 : decode prog_14_method_2_code 618 = .ok (.iconst 0, 1) := by decide +kernel
theorem d88_619 : decode prog_14_method_2_code 619 = .ok (.iconst 0, 1) := by decide +kernel
theorem d88_620 : decode prog_14_method_2_code 620 = .ok (.invokestatic 153, 3) := by decide +kernel
theorem d88_623 : decode prog_14_method_2_code 623 = .ok (.lastore, 1) := by decide +kernel
theorem d88_624 : decode prog_14_method_2_code 624 = .ok (.aload_n 0, 1) := by decide +kernel
theorem d88_625 : decode prog_14_method_2_code 625 = .ok (.getfield 34, 3) := by decide +kernel
theorem d88_628 : decode prog_14_method_2_code 628 = .ok (.bipush 12, 2) := by decide +kernel
theorem d88_630 : decode prog_14_method_2_code 630 = .ok (.bipush 118, 2) := by decide +kernel
theorem d88_632 : decode prog_14_method_2_code 632 = .ok (.bipush 97, 2) := by decide +kernel
theorem d88_634 : decode prog_14_method_2_code 634 = .ok (.bipush 108, 2) := by decide +kernel
theorem d88_636 : decode prog_14_method_2_code 636 = .ok (.bipush 117, 2) := by decide +kernel
theorem d88_638 : decode prog_14_method_2_code 638 = .ok (.bipush 101, 2) := by decide +kernel
theorem d88_640 : decode prog_14_method_2_code 640 = .ok (.iconst 0, 1) := by decide +kernel
theorem d88_641 : decode prog_14_method_2_code 641 = .ok (.iconst 0, 1) := by decide +kernel
theorem d88_642 : decode prog_14_method_2_code 642 = .ok (.invokestatic 153, 3) := by decide +kernel
theorem d88_645 : decode prog_14_method_2_code 645 = .ok (.lastore, 1) := by decide +kernel
theorem d88_646 : decode prog_14_method_2_code 646 = .ok (.aload_n 0, 1) := by decide +kernel
theorem d88_647 : decode prog_14_method_2_code 647 = .ok (.getfield 34, 3) := by decide +kernel
theorem d88_650 : decode prog_14_method_2_code 650 = .ok (.bipush 13, 2) := by decide +kernel
theorem d88_652 : decode prog_14_method_2_code 652 = .ok (.bipush 100, 2) := by decide +kernel
theorem d88_654 : decode prog_14_method_2_code 654 = .ok (.bipush 117, 2) := by decide +kernel
theorem d88_656 : decode prog_14_method_2_code 656 = .ok (.bipush 101, 2) := by decide +kernel
theorem d88_658 : decode prog_14_method_2_code 658 = .ok (.iconst 0, 1) := by decide +kernel
theorem d88_659 : decode prog_14_method_2_code 659 = .ok (.iconst 0, 1) := by decide +kernel
theorem d88_660 : decode prog_14_method_2_code 660 = .ok (.iconst 0, 1) := by decide +kernel
theorem d88_661 : decode prog_14_method_2_code 661 = .ok (.iconst 0, 1) := by decide +kernel
theorem d88_662 : decode prog_14_method_2_code 662 = .ok (.invokestatic 153, 3) := by decide +kernel
theorem d88_665 : decode prog_14_method_2_code 665 = .ok (.lastore, 1) := by decide +kernel
theorem d88_666 : decode prog_14_method_2_code 666 = .ok (.aload_n 0, 1) := by decide +kernel
theorem d88_667 : decode prog_14_method_2_code 667 = .ok (.getfield 34, 3) := by decide +kernel
theorem d88_670 : decode prog_14_method_2_code 670 = .ok (.bipush 14, 2) := by decide +kernel
theorem d88_672 : decode prog_14_method_2_code 672 = .ok (.bipush 100, 2) := by decide +kernel
theorem d88_674 : decode prog_14_method_2_code 674 = .ok (.bipush 97, 2) := by decide +kernel
theorem d88_676 : decode prog_14_method_2_code 676 = .ok (.bipush 121, 2) := by decide +kernel
theorem d88_678 : decode prog_14_method_2_code 678 = .ok (.iconst 0, 1) := by decide +kernel
theorem d88_679 : decode prog_14_method_2_code 679 = .ok (.iconst 0, 1) := by decide +kernel
theorem d88_680 : decode prog_14_method_2_code 680 = .ok (.iconst 0, 1) := by decide +kernel
theorem d88_681 : decode prog_14_method_2_code 681 = .ok (.iconst 0, 1) := by decide +kernel
theorem d88_682 : decode prog_14_method_2_code 682 = .ok (.invokestatic 153, 3) := by decide +kernel
theorem d88_685 : decode prog_14_method_2_code 685 = .ok (.lastore, 1) := by decide +kernel
theorem d88_686 : decode prog_14_method_2_code 686 = .ok (.aload_n 0, 1) := by decide +kernel
theorem d88_687 : decode prog_14_method_2_code 687 = .ok (.getfield 34, 3) := by decide +kernel
theorem d88_690 : decode prog_14_method_2_code 690 = .ok (.bipush 15, 2) := by decide +kernel
theorem d88_692 : decode prog_14_method_2_code 692 = .ok (.bipush 119, 2) := by decide +kernel
theorem d88_694 : decode prog_14_method_2_code 694 = .ok (.bipush 111, 2) := by decide +kernel
theorem d88_696 : decode prog_14_method_2_code 696 = .ok (.bipush 114, 2) := by decide +kernel
theorem d88_698 : decode prog_14_method_2_code 698 = .ok (.bipush 110, 2) := by decide +kernel
theorem d88_700 : decode prog_14_method_2_code 700 = .ok (.iconst 0, 1) := by decide +kernel
theorem d88_701 : decode prog_14_method_2_code 701 = .ok (.iconst 0, 1) := by decide +kernel
theorem d88_702 : decode prog_14_method_2_code 702 = .ok (.iconst 0, 1) := by decide +kernel
theorem d88_703 : decode prog_14_method_2_code 703 = .ok (.invokestatic 153, 3) := by decide +kernel
theorem d88_706 : decode prog_14_method_2_code 706 = .ok (.lastore, 1) := by decide +kernel
theorem d88_707 : decode prog_14_method_2_code 707 = .ok (.aload_n 0, 1) := by decide +kernel
theorem d88_708 : decode prog_14_method_2_code 708 = .ok (.getfield 34, 3) := by decide +kernel
theorem d88_711 : decode prog_14_method_2_code 711 = .ok (.bipush 16, 2) := by decide +kernel
theorem d88_713 : decode prog_14_method_2_code 713 = .ok (.bipush 104, 2) := by decide +kernel
theorem d88_715 : decode prog_14_method_2_code 715 = .ok (.bipush 97, 2) := by decide +kernel
theorem d88_717 : decode prog_14_method_2_code 717 = .ok (.bipush 115, 2) := by decide +kernel
theorem d88_719 : decode prog_14_method_2_code 719 = .ok (.iconst 0, 1) := by decide +kernel
theorem d88_720 : decode prog_14_method_2_code 720 = .ok (.iconst 0, 1) := by decide +kernel
theorem d88_721 : decode prog_14_method_2_code 721 = .ok (.iconst 0, 1) := by decide +kernel
theorem d88_722 : decode prog_14_method_2_code 722 = .ok (.iconst 0, 1) := by decide +kernel
theorem d88_723 : decode prog_14_method_2_code 723 = .ok (.invokestatic 153, 3) := by decide +kernel
theorem d88_726 : decode prog_14_method_2_code 726 = .ok (.lastore, 1) := by decide +kernel
theorem d88_727 : decode prog_14_method_2_code 727 = .ok (.aload_n 0, 1) := by decide +kernel
theorem d88_728 : decode prog_14_method_2_code 728 = .ok (.getfield 34, 3) := by decide +kernel
theorem d88_731 : decode prog_14_method_2_code 731 = .ok (.bipush 17, 2) := by decide +kernel
theorem d88_733 : decode prog_14_method_2_code 733 = .ok (.bipush 119, 2) := by decide +kernel
theorem d88_735 : decode prog_14_method_2_code 735 = .ok (.bipush 104, 2) := by decide +kernel
theorem d88_737 : decode prog_14_method_2_code 737 = .ok (.bipush 105, 2) := by decide +kernel
theorem d88_739 : decode prog_14_method_2_code 739 = .ok (.bipush 99, 2) := by decide +kernel
theorem d88_741 : decode prog_14_method_2_code 741 = .ok (.bipush 104, 2) := by decide +kernel
theorem d88_743 : decode prog_14_method_2_code 743 = .ok (.iconst 0, 1) := by decide +kernel
theorem d88_744 : decode prog_14_method_2_code 744 = .ok (.iconst 0, 1) := by decide +kernel
theorem d88_745 : decode prog_14_method_2_code 745 = .ok (.invokestatic 153, 3) := by decide +kernel
theorem d88_748 : decode prog_14_method_2_code 748 = .ok (.lastore, 1) := by decide +kernel
theorem d88_749 : decode prog_14_method_2_code 749 = .ok (.aload_n 0, 1) := by decide +kernel
theorem d88_750 : decode prog_14_method_2_code 750 = .ok (.getfield 34, 3) := by decide +kernel
theorem d88_753 : decode prog_14_method_2_code 753 = .ok (.bipush 18, 2) := by decide +kernel
theorem d88_755 : decode prog_14_method_2_code 755 = .ok (.bipush 108, 2) := by decide +kernel
theorem d88_757 : decode prog_14_method_2_code 757 = .ok (.bipush 101, 2) := by decide +kernel
theorem d88_759 : decode prog_14_method_2_code 759 = .ok (.bipush 116, 2) := by decide +kernel
theorem d88_761 : decode prog_14_method_2_code 761 = .ok (.bipush 116, 2) := by decide +kernel
theorem d88_763 : decode prog_14_method_2_code 763 = .ok (.bipush 101, 2) := by decide +kernel
theorem d88_765 : decode prog_14_method_2_code 765 = .ok (.bipush 114, 2) := by decide +kernel
theorem d88_767 : decode prog_14_method_2_code 767 = .ok (.iconst 0, 1) := by decide +kernel
theorem d88_768 : decode prog_14_method_2_code 768 = .ok (.invokestatic 153, 3) := by decide +kernel
theorem d88_771 : decode prog_14_method_2_code 771 = .ok (.lastore, 1) := by decide +kernel
theorem d88_772 : decode prog_14_method_2_code 772 = .ok (.aload_n 0, 1) := by decide +kernel
theorem d88_773 : decode prog_14_method_2_code 773 = .ok (.getfield 34, 3) := by decide +kernel
theorem d88_776 : decode prog_14_method_2_code 776 = .ok (.bipush 19, 2) := by decide +kernel
theorem d88_778 : decode prog_14_method_2_code 778 = .ok (.bipush 108, 2) := by decide +kernel
theorem d88_780 : decode prog_14_method_2_code 780 = .ok (.bipush 111, 2) := by decide +kernel
theorem d88_782 : decode prog_14_method_2_code 782 = .ok (.bipush 110, 2) := by decide +kernel
theorem d88_784 : decode prog_14_method_2_code 784 = .ok (.bipush 103, 2) := by decide +kernel
theorem d88_786 : decode prog_14_method_2_code 786 = .ok (.iconst 0, 1) := by decide +kernel
theorem d88_787 : decode prog_14_method_2_code 787 = .ok (.iconst 0, 1) := by decide +kernel
theorem d88_788 : decode prog_14_method_2_code 788 = .ok (.iconst 0, 1) := by decide +kernel
theorem d88_789 : decode prog_14_method_2_code 789 = .ok (.invokestatic 153, 3) := by decide +kernel
theorem d88_792 : decode prog_14_method_2_code 792 = .ok (.lastore, 1) := by decide +kernel
theorem d88_793 : decode prog_14_method_2_code 793 = .ok (.aload_n 0, 1) := by decide +kernel
theorem d88_794 : decode prog_14_method_2_code 794 = .ok (.getfield 34, 3) := by decide +kernel
theorem d88_797 : decode prog_14_method_2_code 797 = .ok (.bipush 20, 2) := by decide +kernel
theorem d88_799 : decode prog_14_method_2_code 799 = .ok (.bipush 108, 2) := by decide +kernel
theorem d88_801 : decode prog_14_method_2_code 801 = .ok (.bipush 101, 2) := by decide +kernel
theorem d88_803 : decode prog_14_method_2_code 803 = .ok (.bipush 110, 2) := by decide +kernel
theorem d88_805 : decode prog_14_method_2_code 805 = .ok (.bipush 116, 2) := by decide +kernel
theorem d88_807 : decode prog_14_method_2_code 807 = .ok (.iconst 0, 1) := by decide +kernel
theorem d88_808 : decode prog_14_method_2_code 808 = .ok (.iconst 0, 1) := by decide +kernel
theorem d88_809 : decode prog_14_method_2_code 809 = .ok (.iconst 0, 1) := by decide +kernel
theorem d88_810 : decode prog_14_method_2_code 810 = .ok (.invokestatic 153, 3) := by decide +kernel
theorem d88_813 : decode prog_14_method_2_code 813 = .ok (.lastore, 1) := by decide +kernel
theorem d88_814 : decode prog_14_method_2_code 814 = .ok (.aload_n 0, 1) := by decide +kernel
theorem d88_815 : decode prog_14_method_2_code 815 = .ok (.invokevirtual 157, 3) := by decide +kernel
theorem d88_818 : decode prog_14_method_2_code 818 = .ok (.aload_n 0, 1) := by decide +kernel
theorem d88_819 : decode prog_14_method_2_code 819 = .ok (.invokevirtual 160, 3) := by decide +kernel
theorem d88_822 : decode prog_14_method_2_code 822 = .ok (.return_, 1) := by decide +kernel
noncomputable def T_88 : Nat → Option xF := bn 438 (bn 224 (bn 110 (bn 59 (bn 28 (bn 13 (bn 5 (bn 1 (bl 0 (x_aload 0 1)) (bn 4 (bl 1 (x_obj 4)) (bl 4 (x_aload 0 5)))) (bn 8 (bl 5 (x_const 2147485648 8)) (bn 10 (bl 8 (x_newa 1 10)) (bl 10 (x_putf 12 1 2 13))))) (bn 19 (bn 14 (bl 13 (x_aload 0 14)) (bn 17 (bl 14 (x_const 2147485648 17)) (bl 17 (x_newa 1 19)))) (bn 23 (bn 22 (bl 19 (x_putf 12 3 2 22)) (bl 22 (x_aload 0 23))) (bn 26 (bl 23 (x_const 2147484051 26)) (bl 26 (x_newa 0 28)))))) (bn 44 (bn 35 (bn 31 (bl 28 (x_putf 12 5 2 31)) (bn 32 (bl 31 (x_aload 0 32)) (bl 32 (x_const 2147484051 35)))) (bn 40 (bn 37 (bl 35 (x_newa 0 37)) (bl 37 (x_putf 12 6 2 40))) (bn 41 (bl 40 (x_aload 0 41)) (bl 41 (x_const 2147484051 44))))) (bn 50 (bn 46 (bl 44 (x_newa 0 46)) (bn 49 (bl 46 (x_putf 12 7 2 49)) (bl 49 (x_aload 0 50)))) (bn 55 (bn 53 (bl 50 (x_const 2147484051 53)) (bl 53 (x_newa 3 55))) (bn 58 (bl 55 (x_putf 12 8 2 58)) (bl 58 (x_aload 0 59))))))) (bn 83 (bn 71 (bn 66 (bn 61 (bl 59 (x_const 2147483669 61)) (bn 63 (bl 61 (x_newa 3 63)) (bl 63 (x_putf 12 9 2 66)))) (bn 67 (bl 66 (x_aload 0 67)) (bn 68 (bl 67 (x_const 2147483647 68)) (bl 68 (x_putf 12 17 0 71))))) (bn 76 (bn 72 (bl 71 (x_aload 0 72)) (bn 74 (bl 72 (x_const 2147483660 74)) (bl 74 (x_newa 3 76)))) (bn 80 (bn 79 (bl 76 (x_putf 12 21 2 79)) (bl 79 (x_aload 0 80))) (bn 81 (bl 80 (x_const 2147483650 81)) (bl 81 (x_newa 0 83)))))) (bn 96 (bn 89 (bn 86 (bl 83 (x_putf 12 22 2 86)) (bn 87 (bl 86 (x_aload 0 87)) (bl 87 (x_const 2147483728 89)))) (bn 94 (bn 91 (bl 89 (x_newa 0 91)) (bl 91 (x_putf 12 23 2 94))) (bn 95 (bl 94 (x_aload 0 95)) (bl 95 (x_const 2147483650 96))))) (bn 102 (bn 98 (bl 96 (x_newa 0 98)) (bn 101 (bl 98 (x_putf 12 24 2 101)) (bl 101 (x_aload 0 102)))) (bn 106 (bn 104 (bl 102 (x_const 2147483662 104)) (bl 104 (x_newa 0 106))) (bn 109 (bl 106 (x_putf 12 25 2 109)) (bl 109 (x_aload 0 110)))))))) (bn 162 (bn 135 (bn 122 (bn 117 (bn 112 (bl 110 (x_const 2147483760 112)) (bn 114 (bl 112 (x_newa 0 114)) (bl 114 (x_putf 12 26 2 117)))) (bn 118 (bl 117 (x_aload 0 118)) (bn 120 (bl 118 (x_const 2147483662 120)) (bl 120 (x_newa 0 122))))) (bn 128 (bn 125 (bl 122 (x_putf 12 27 2 125)) (bn 126 (bl 125 (x_aload 0 126)) (bl 126 (x_const 2147483662 128)))) (bn 133 (bn 130 (bl 128 (x_newa 0 130)) (bl 130 (x_putf 12 28 2 133))) (bn 134 (bl 133 (x_aload 0 134)) (bl 134 (x_const 2147483650 135)))))) (bn 148 (bn 141 (bn 137 (bl 135 (x_newa 0 137)) (bn 140 (bl 137 (x_putf 12 29 2 140)) (bl 140 (x_aload 0 141)))) (bn 144 (bn 142 (bl 141 (x_const 2147483650 142)) (bl 142 (x_newa 0 144))) (bn 147 (bl 144 (x_putf 12 30 2 147)) (bl 147 (x_aload 0 148))))) (bn 154 (bn 149 (bl 148 (x_const 2147483650 149)) (bn 151 (bl 149 (x_newa 0 151)) (bl 151 (x_putf 12 31 2 154)))) (bn 157 (bn 155 (bl 154 (x_aload 0 155)) (bl 155 (x_const 2147483656 157))) (bn 159 (bl 157 (x_newa 0 159)) (bl 159 (x_putf 12 32 2 162))))))) (bn 192 (bn 176 (bn 167 (bn 163 (bl 162 (x_aload 0 163)) (bn 165 (bl 163 (x_const 2147483656 165)) (bl 165 (x_newa 0 167)))) (bn 171 (bn 170 (bl 167 (x_putf 12 33 2 170)) (bl 170 (x_aload 0 171))) (bn 174 (bl 171 (x_const 2147483908 174)) (bl 174 (x_newa 2 176))))) (bn 183 (bn 179 (bl 176 (x_putf 12 35 2 179)) (bn 180 (bl 179 (x_aload 0 180)) (bl 180 (x_const 2147483908 183)))) (bn 188 (bn 185 (bl 183 (x_newa 0 185)) (bl 185 (x_putf 12 36 2 188))) (bn 189 (bl 188 (x_aload 0 189)) (bl 189 (x_const 2147483908 192)))))) (bn 207 (bn 198 (bn 194 (bl 192 (x_newa 0 194)) (bn 197 (bl 194 (x_putf 12 37 2 197)) (bl 197 (x_aload 0 198)))) (bn 203 (bn 201 (bl 198 (x_const 2147483908 201)) (bl 201 (x_newa 0 203))) (bn 206 (bl 203 (x_putf 12 38 2 206)) (bl 206 (x_aload 0 207))))) (bn 215 (bn 210 (bl 207 (x_const 2147483908 210)) (bn 212 (bl 210 (x_newa 0 212)) (bl 212 (x_putf 12 39 2 215)))) (bn 219 (bn 216 (bl 215 (x_aload 0 216)) (bl 216 (x_const 2147484488 219))) (bn 221 (bl 219 (x_newa 0 221)) (bl 221 (x_putf 12 41 2 224))))))))) (bn 337 (bn 281 (bn 250 (bn 236 (bn 230 (bn 225 (bl 224 (x_aload 0 225)) (bn 228 (bl 225 (x_const 2147484488 228)) (bl 228 (x_newa 0 230)))) (bn 233 (bl 230 (x_putf 12 42 2 233)) (bn 234 (bl 233 (x_aload 0 234)) (bl 234 (x_const 2147483656 236))))) (bn 242 (bn 238 (bl 236 (x_newa 0 238)) (bn 241 (bl 238 (x_putf 12 43 2 241)) (bl 241 (x_aload 0 242)))) (bn 246 (bn 244 (bl 242 (x_const 2147483712 244)) (bl 244 (x_newa 0 246))) (bn 249 (bl 246 (x_putf 12 45 2 249)) (bl 249 (x_aload 0 250)))))) (bn 266 (bn 257 (bn 252 (bl 250 (x_const 2147483657 252)) (bn 254 (bl 252 (x_newa 0 254)) (bl 254 (x_putf 12 47 2 257)))) (bn 261 (bn 258 (bl 257 (x_aload 0 258)) (bl 258 (x_const 2147484048 261))) (bn 263 (bl 261 (x_newa 0 263)) (bl 263 (x_putf 12 48 2 266))))) (bn 272 (bn 267 (bl 266 (x_aload 0 267)) (bn 270 (bl 267 (x_const 2147484038 270)) (bl 270 (x_newa 0 272)))) (bn 276 (bn 275 (bl 272 (x_putf 12 50 2 275)) (bl 275 (x_aload 0 276))) (bn 279 (bl 276 (x_const 2147484038 279)) (bl 279 (x_newa 0 281))))))) (bn 308 (bn 293 (bn 287 (bn 284 (bl 281 (x_putf 12 51 2 284)) (bn 285 (bl 284 (x_aload 0 285)) (bl 285 (x_const 2147483688 287)))) (bn 289 (bl 287 (x_newa 2 289)) (bn 292 (bl 289 (x_putf 12 56 2 292)) (bl 292 (x_aload 0 293))))) (bn 300 (bn 295 (bl 293 (x_const 2147483688 295)) (bn 297 (bl 295 (x_newa 0 297)) (bl 297 (x_putf 12 57 2 300)))) (bn 303 (bn 301 (bl 300 (x_aload 0 301)) (bl 301 (x_const 2147483655 303))) (bn 305 (bl 303 (x_newa 0 305)) (bl 305 (x_putf 12 58 2 308)))))) (bn 323 (bn 314 (bn 309 (bl 308 (x_aload 0 309)) (bn 312 (bl 309 (x_const 2147495348 312)) (bl 312 (x_newa 0 314)))) (bn 318 (bn 317 (bl 314 (x_putf 12 60 2 317)) (bl 317 (x_aload 0 318))) (bn 321 (bl 318 (x_const 2147484038 321)) (bl 321 (x_newa 0 323))))) (bn 329 (bn 326 (bl 323 (x_putf 12 61 2 326)) (bn 327 (bl 326 (x_aload 0 327)) (bl 327 (x_const 2147483668 329)))) (bn 334 (bn 331 (bl 329 (x_newa 0 331)) (bl 331 (x_putf 12 65 2 334))) (bn 335 (bl 334 (x_aload 0 335)) (bl 335 (x_const 2147483668 337)))))))) (bn 388 (bn 363 (bn 350 (bn 343 (bn 339 (bl 337 (x_newa 0 339)) (bn 342 (bl 339 (x_putf 12 66 2 342)) (bl 342 (x_aload 0 343)))) (bn 345 (bl 343 (x_const 2147483668 345)) (bn 347 (bl 345 (x_newa 2 347)) (bl 347 (x_putf 12 67 2 350))))) (bn 354 (bn 351 (bl 350 (x_aload 0 351)) (bn 352 (bl 351 (x_const 2147483651 352)) (bl 352 (x_newa 2 354)))) (bn 358 (bn 357 (bl 354 (x_putf 12 68 2 357)) (bl 357 (x_aload 0 358))) (bn 361 (bl 358 (x_const 2147484818 361)) (bl 361 (x_newa 0 363)))))) (bn 376 (bn 368 (bn 366 (bl 363 (x_putf 12 69 2 366)) (bn 367 (bl 366 (x_aload 0 367)) (bl 367 (x_const 2147483648 368)))) (bn 372 (bn 371 (bl 368 (x_invV 12 132 2 371)) (bl 371 (x_aload 0 372))) (bn 375 (bl 372 (x_getf 12 9 375)) (bl 375 (x_const 2147483648 376))))) (bn 382 (bn 378 (bl 376 (x_const 2147483752 378)) (bn 380 (bl 378 (x_const 2147483759 380)) (bl 380 (x_const 2147483765 382)))) (bn 386 (bn 384 (bl 382 (x_const 2147483763 384)) (bl 384 (x_const 2147483749 386))) (bn 387 (bl 386 (x_const 2147483648 387)) (bl 387 (x_const 2147483648 388))))))) (bn 413 (bn 401 (bn 393 (bn 391 (bl 388 (x_inv 151 7 391)) (bn 392 (bl 391 (x_last 392)) (bl 392 (x_aload 0 393)))) (bn 397 (bn 396 (bl 393 (x_getf 12 9 396)) (bl 396 (x_const 2147483649 397))) (bn 399 (bl 397 (x_const 2147483766 399)) (bl 399 (x_const 2147483749 401))))) (bn 407 (bn 403 (bl 401 (x_const 2147483762 403)) (bn 405 (bl 403 (x_const 2147483763 405)) (bl 405 (x_const 2147483749 407)))) (bn 409 (bn 408 (bl 407 (x_const 2147483648 408)) (bl 408 (x_const 2147483648 409))) (bn 412 (bl 409 (x_inv 151 7 412)) (bl 412 (x_last 413)))))) (bn 426 (bn 418 (bn 414 (bl 413 (x_aload 0 414)) (bn 417 (bl 414 (x_getf 12 9 417)) (bl 417 (x_const 2147483650 418)))) (bn 422 (bn 420 (bl 418 (x_const 2147483756 420)) (bl 420 (x_const 2147483749 422))) (bn 424 (bl 422 (x_const 2147483745 424)) (bl 424 (x_const 2147483766 426))))) (bn 430 (bn 428 (bl 426 (x_const 2147483749 428)) (bn 429 (bl 428 (x_const 2147483648 429)) (bl 429 (x_const 2147483648 430)))) (bn 434 (bn 433 (bl 430 (x_inv 151 7 433)) (bl 433 (x_last 434))) (bn 435 (bl 434 (x_aload 0 435)) (bl 435 (x_getf 12 9 438)))))))))) (bn 630 (bn 534 (bn 484 (bn 459 (bn 448 (bn 443 (bn 439 (bl 438 (x_const 2147483651 439)) (bn 441 (bl 439 (x_const 2147483762 441)) (bl 441 (x_const 2147483745 443)))) (bn 445 (bl 443 (x_const 2147483758 445)) (bn 447 (bl 445 (x_const 2147483755 447)) (bl 447 (x_const 2147483648 448))))) (bn 453 (bn 449 (bl 448 (x_const 2147483648 449)) (bn 450 (bl 449 (x_const 2147483648 450)) (bl 450 (x_inv 151 7 453)))) (bn 455 (bn 454 (bl 453 (x_last 454)) (bl 454 (x_aload 0 455))) (bn 458 (bl 455 (x_getf 12 9 458)) (bl 458 (x_const 2147483652 459)))))) (bn 471 (bn 465 (bn 461 (bl 459 (x_const 2147483767 461)) (bn 463 (bl 461 (x_const 2147483749 463)) (bl 463 (x_const 2147483745 465)))) (bn 469 (bn 467 (bl 465 (x_const 2147483762 467)) (bl 467 (x_const 2147483763 469))) (bn 470 (bl 469 (x_const 2147483648 470)) (bl 470 (x_const 2147483648 471))))) (bn 476 (bn 474 (bl 471 (x_inv 151 7 474)) (bn 475 (bl 474 (x_last 475)) (bl 475 (x_aload 0 476)))) (bn 480 (bn 479 (bl 476 (x_getf 12 9 479)) (bl 479 (x_const 2147483653 480))) (bn 482 (bl 480 (x_const 2147483760 482)) (bl 482 (x_const 2147483745 484))))))) (bn 507 (bn 494 (bn 489 (bn 486 (bl 484 (x_const 2147483769 486)) (bn 488 (bl 486 (x_const 2147483763 488)) (bl 488 (x_const 2147483648 489)))) (bn 490 (bl 489 (x_const 2147483648 490)) (bn 491 (bl 490 (x_const 2147483648 491)) (bl 491 (x_inv 151 7 494))))) (bn 499 (bn 495 (bl 494 (x_last 495)) (bn 496 (bl 495 (x_aload 0 496)) (bl 496 (x_getf 12 9 499)))) (bn 503 (bn 501 (bl 499 (x_const 2147483654 501)) (bl 501 (x_const 2147483763 503))) (bn 505 (bl 503 (x_const 2147483760 505)) (bl 505 (x_const 2147483759 507)))))) (bn 519 (bn 513 (bn 509 (bl 507 (x_const 2147483753 509)) (bn 511 (bl 509 (x_const 2147483756 511)) (bl 511 (x_const 2147483763 513)))) (bn 517 (bn 514 (bl 513 (x_const 2147483648 514)) (bl 514 (x_inv 151 7 517))) (bn 518 (bl 517 (x_last 518)) (bl 518 (x_aload 0 519))))) (bn 526 (bn 522 (bl 519 (x_getf 12 9 522)) (bn 524 (bl 522 (x_const 2147483655 524)) (bl 524 (x_const 2147483764 526)))) (bn 530 (bn 528 (bl 526 (x_const 2147483752 528)) (bl 528 (x_const 2147483753 530))) (bn 532 (bl 530 (x_const 2147483749 532)) (bl 532 (x_const 2147483766 534)))))))) (bn 581 (bn 558 (bn 546 (bn 541 (bn 536 (bl 534 (x_const 2147483749 536)) (bn 538 (bl 536 (x_const 2147483763 538)) (bl 538 (x_inv 151 7 541)))) (bn 542 (bl 541 (x_last 542)) (bn 543 (bl 542 (x_aload 0 543)) (bl 543 (x_getf 12 9 546))))) (bn 552 (bn 548 (bl 546 (x_const 2147483656 548)) (bn 550 (bl 548 (x_const 2147483763 550)) (bl 550 (x_const 2147483749 552)))) (bn 556 (bn 554 (bl 552 (x_const 2147483749 554)) (bl 554 (x_const 2147483748 556))) (bn 557 (bl 556 (x_const 2147483648 557)) (bl 557 (x_const 2147483648 558)))))) (bn 571 (bn 563 (bn 559 (bl 558 (x_const 2147483648 559)) (bn 562 (bl 559 (x_inv 151 7 562)) (bl 562 (x_last 563)))) (bn 567 (bn 564 (bl 563 (x_aload 0 564)) (bl 564 (x_getf 12 9 567))) (bn 569 (bl 567 (x_const 2147483657 569)) (bl 569 (x_const 2147483753 571))))) (bn 575 (bn 573 (bl 571 (x_const 2147483750 573)) (bn 574 (bl 573 (x_const 2147483648 574)) (bl 574 (x_const 2147483648 575)))) (bn 577 (bn 576 (bl 575 (x_const 2147483648 576)) (bl 576 (x_const 2147483648 577))) (bn 578 (bl 577 (x_const 2147483648 578)) (bl 578 (x_inv 151 7 581))))))) (bn 604 (bn 594 (bn 586 (bn 582 (bl 581 (x_last 582)) (bn 583 (bl 582 (x_aload 0 583)) (bl 583 (x_getf 12 9 586)))) (bn 590 (bn 588 (bl 586 (x_const 2147483658 588)) (bl 588 (x_const 2147483764 590))) (bn 592 (bl 590 (x_const 2147483752 592)) (bl 592 (x_const 2147483749 594))))) (bn 598 (bn 596 (bl 594 (x_const 2147483758 596)) (bn 597 (bl 596 (x_const 2147483648 597)) (bl 597 (x_const 2147483648 598)))) (bn 602 (bn 599 (bl 598 (x_const 2147483648 599)) (bl 599 (x_inv 151 7 602))) (bn 603 (bl 602 (x_last 603)) (bl 603 (x_aload 0 604)))))) (bn 618 (bn 611 (bn 607 (bl 604 (x_getf 12 9 607)) (bn 609 (bl 607 (x_const 2147483659 609)) (bl 609 (x_const 2147483749 611)))) (bn 615 (bn 613 (bl 611 (x_const 2147483756 613)) (bl 613 (x_const 2147483763 615))) (bn 617 (bl 615 (x_const 2147483749 617)) (bl 617 (x_const 2147483648 618))))) (bn 623 (bn 619 (bl 618 (x_const 2147483648 619)) (bn 620 (bl 619 (x_const 2147483648 620)) (bl 620 (x_inv 151 7 623)))) (bn 625 (bn 624 (bl 623 (x_last 624)) (bl 624 (x_aload 0 625))) (bn 628 (bl 625 (x_getf 12 9 628)) (bl 628 (x_const 2147483660 630))))))))) (bn 722 (bn 678 (bn 654 (bn 641 (bn 636 (bn 632 (bl 630 (x_const 2147483766 632)) (bn 634 (bl 632 (x_const 2147483745 634)) (bl 634 (x_const 2147483756 636)))) (bn 638 (bl 636 (x_const 2147483765 638)) (bn 640 (bl 638 (x_const 2147483749 640)) (bl 640 (x_const 2147483648 641))))) (bn 646 (bn 642 (bl 641 (x_const 2147483648 642)) (bn 645 (bl 642 (x_inv 151 7 645)) (bl 645 (x_last 646)))) (bn 650 (bn 647 (bl 646 (x_aload 0 647)) (bl 647 (x_getf 12 9 650))) (bn 652 (bl 650 (x_const 2147483661 652)) (bl 652 (x_const 2147483748 654)))))) (bn 665 (bn 659 (bn 656 (bl 654 (x_const 2147483765 656)) (bn 658 (bl 656 (x_const 2147483749 658)) (bl 658 (x_const 2147483648 659)))) (bn 661 (bn 660 (bl 659 (x_const 2147483648 660)) (bl 660 (x_const 2147483648 661))) (bn 662 (bl 661 (x_const 2147483648 662)) (bl 662 (x_inv 151 7 665))))) (bn 670 (bn 666 (bl 665 (x_last 666)) (bn 667 (bl 666 (x_aload 0 667)) (bl 667 (x_getf 12 9 670)))) (bn 674 (bn 672 (bl 670 (x_const 2147483662 672)) (bl 672 (x_const 2147483748 674))) (bn 676 (bl 674 (x_const 2147483745 676)) (bl 676 (x_const 2147483769 678))))))) (bn 700 (bn 686 (bn 681 (bn 679 (bl 678 (x_const 2147483648 679)) (bn 680 (bl 679 (x_const 2147483648 680)) (bl 680 (x_const 2147483648 681)))) (bn 682 (bl 681 (x_const 2147483648 682)) (bn 685 (bl 682 (x_inv 151 7 685)) (bl 685 (x_last 686))))) (bn 692 (bn 687 (bl 686 (x_aload 0 687)) (bn 690 (bl 687 (x_getf 12 9 690)) (bl 690 (x_const 2147483663 692)))) (bn 696 (bn 694 (bl 692 (x_const 2147483767 694)) (bl 694 (x_const 2147483759 696))) (bn 698 (bl 696 (x_const 2147483762 698)) (bl 698 (x_const 2147483758 700)))))) (bn 711 (bn 703 (bn 701 (bl 700 (x_const 2147483648 701)) (bn 702 (bl 701 (x_const 2147483648 702)) (bl 702 (x_const 2147483648 703)))) (bn 707 (bn 706 (bl 703 (x_inv 151 7 706)) (bl 706 (x_last 707))) (bn 708 (bl 707 (x_aload 0 708)) (bl 708 (x_getf 12 9 711))))) (bn 717 (bn 713 (bl 711 (x_const 2147483664 713)) (bn 715 (bl 713 (x_const 2147483752 715)) (bl 715 (x_const 2147483745 717)))) (bn 720 (bn 719 (bl 717 (x_const 2147483763 719)) (bl 719 (x_const 2147483648 720))) (bn 721 (bl 720 (x_const 2147483648 721)) (bl 721 (x_const 2147483648 722)))))))) (bn 772 (bn 745 (bn 733 (bn 727 (bn 723 (bl 722 (x_const 2147483648 723)) (bn 726 (bl 723 (x_inv 151 7 726)) (bl 726 (x_last 727)))) (bn 728 (bl 727 (x_aload 0 728)) (bn 731 (bl 728 (x_getf 12 9 731)) (bl 731 (x_const 2147483665 733))))) (bn 739 (bn 735 (bl 733 (x_const 2147483767 735)) (bn 737 (bl 735 (x_const 2147483752 737)) (bl 737 (x_const 2147483753 739)))) (bn 743 (bn 741 (bl 739 (x_const 2147483747 741)) (bl 741 (x_const 2147483752 743))) (bn 744 (bl 743 (x_const 2147483648 744)) (bl 744 (x_const 2147483648 745)))))) (bn 759 (bn 750 (bn 748 (bl 745 (x_inv 151 7 748)) (bn 749 (bl 748 (x_last 749)) (bl 749 (x_aload 0 750)))) (bn 755 (bn 753 (bl 750 (x_getf 12 9 753)) (bl 753 (x_const 2147483666 755))) (bn 757 (bl 755 (x_const 2147483756 757)) (bl 757 (x_const 2147483749 759))))) (bn 765 (bn 761 (bl 759 (x_const 2147483764 761)) (bn 763 (bl 761 (x_const 2147483764 763)) (bl 763 (x_const 2147483749 765)))) (bn 768 (bn 767 (bl 765 (x_const 2147483762 767)) (bl 767 (x_const 2147483648 768))) (bn 771 (bl 768 (x_inv 151 7 771)) (bl 771 (x_last 772))))))) (bn 797 (bn 786 (bn 778 (bn 773 (bl 772 (x_aload 0 773)) (bn 776 (bl 773 (x_getf 12 9 776)) (bl 776 (x_const 2147483667 778)))) (bn 782 (bn 780 (bl 778 (x_const 2147483756 780)) (bl 780 (x_const 2147483759 782))) (bn 784 (bl 782 (x_const 2147483758 784)) (bl 784 (x_const 2147483751 786))))) (bn 789 (bn 787 (bl 786 (x_const 2147483648 787)) (bn 788 (bl 787 (x_const 2147483648 788)) (bl 788 (x_const 2147483648 789)))) (bn 793 (bn 792 (bl 789 (x_inv 151 7 792)) (bl 792 (x_last 793))) (bn 794 (bl 793 (x_aload 0 794)) (bl 794 (x_getf 12 9 797)))))) (bn 809 (bn 803 (bn 799 (bl 797 (x_const 2147483668 799)) (bn 801 (bl 799 (x_const 2147483756 801)) (bl 801 (x_const 2147483749 803)))) (bn 807 (bn 805 (bl 803 (x_const 2147483758 805)) (bl 805 (x_const 2147483764 807))) (bn 808 (bl 807 (x_const 2147483648 808)) (bl 808 (x_const 2147483648 809))))) (bn 814 (bn 810 (bl 809 (x_const 2147483648 810)) (bn 813 (bl 810 (x_inv 151 7 813)) (bl 813 (x_last 814)))) (bn 818 (bn 815 (bl 814 (x_aload 0 815)) (bl 815 (x_invV 12 95 1 818))) (bn 819 (bl 818 (x_aload 0 819)) (bl 819 (x_invV 12 122 1 822))))))))))
set_option maxRecDepth 100000 in
set_option maxHeartbeats 4000000 in
theorem T_88_ok (G : State → Nat → Nat → Prop) : xTree PX G prog_14_method_2_code "CapitalCaseModel" true T_88 := (xT_n (xT_n (xT_n (xT_n (xT_n (xT_n (xT_n (xT_n (xT_l (s_aload_n d88_0)) (xT_n (xT_l (s_obj d88_1 wd_1262 wd_139 wd_obj)) (xT_l (s_aload_n d88_4)))) (xT_n (xT_l (s_sipush d88_5 (by decide +kernel))) (xT_n (xT_l (s_newa (ty := .byte) d88_8 rfl rfl wd_252 (by decide) (fun _ _ => rfl) (Or.inl ⟨by decide, rfl⟩))) (xT_l (s_putF (T := TX12) (N := 70) (ty := tyX12) d88_10 rfl inX12 tyX12_ok nmX12 (by decide) wd_1282 (Or.inr (Or.inr ⟨rfl, Or.inr ⟨_, rfl⟩⟩)) rfl rfl rfl))))) (xT_n (xT_n (xT_l (s_aload_n d88_13)) (xT_n (xT_l (s_sipush d88_14 (by decide +kernel))) (xT_l (s_newa (ty := .byte) d88_17 rfl rfl wd_252 (by decide) (fun _ _ => rfl) (Or.inl ⟨by decide, rfl⟩))))) (xT_n (xT_n (xT_l (s_putF (T := TX12) (N := 70) (ty := tyX12) d88_19 rfl inX12 tyX12_ok nmX12 (by decide) wd_1284 (Or.inr (Or.inr ⟨rfl, Or.inr ⟨_, rfl⟩⟩)) rfl rfl rfl)) (xT_l (s_aload_n d88_22))) (xT_n (xT_l (s_sipush d88_23 (by decide +kernel))) (xT_l (s_newa (ty := .int) d88_26 rfl rfl wd_253 (by decide) (fun _ _ => rfl) (Or.inl ⟨by decide, rfl⟩))))))) (xT_n (xT_n (xT_n (xT_l (s_putF (T := TX12) (N := 70) (ty := tyX12) d88_28 rfl inX12 tyX12_ok nmX12 (by decide) wd_1286 (Or.inr (Or.inr ⟨rfl, Or.inr ⟨_, rfl⟩⟩)) rfl rfl rfl)) (xT_n (xT_l (s_aload_n d88_31)) (xT_l (s_sipush d88_32 (by decide +kernel))))) (xT_n (xT_n (xT_l (s_newa (ty := .int) d88_35 rfl rfl wd_253 (by decide) (fun _ _ => rfl) (Or.inl ⟨by decide, rfl⟩))) (xT_l (s_putF (T := TX12) (N := 70) (ty := tyX12) d88_37 rfl inX12 tyX12_ok nmX12 (by decide) wd_1287 (Or.inr (Or.inr ⟨rfl, Or.inr ⟨_, rfl⟩⟩)) rfl rfl rfl))) (xT_n (xT_l (s_aload_n d88_40)) (xT_l (s_sipush d88_41 (by decide +kernel)))))) (xT_n (xT_n (xT_l (s_newa (ty := .int) d88_44 rfl rfl wd_253 (by decide) (fun _ _ => rfl) (Or.inl ⟨by decide, rfl⟩))) (xT_n (xT_l (s_putF (T := TX12) (N := 70) (ty := tyX12) d88_46 rfl inX12 tyX12_ok nmX12 (by decide) wd_1288 (Or.inr (Or.inr ⟨rfl, Or.inr ⟨_, rfl⟩⟩)) rfl rfl rfl)) (xT_l (s_aload_n d88_49)))) (xT_n (xT_n (xT_l (s_sipush d88_50 (by decide +kernel))) (xT_l (s_newa (ty := .long) d88_53 rfl rfl wd_1492 (by decide) (fun _ _ => rfl) (Or.inr ⟨by decide, rfl⟩)))) (xT_n (xT_l (s_putF (T := TX12) (N := 70) (ty := tyX12) d88_55 rfl inX12 tyX12_ok nmX12 (by decide) wd_1289 (Or.inr (Or.inr ⟨rfl, Or.inr ⟨_, rfl⟩⟩)) rfl rfl rfl)) (xT_l (s_aload_n d88_58))))))) (xT_n (xT_n (xT_n (xT_n (xT_l (s_bipush d88_59 (by decide +kernel))) (xT_n (xT_l (s_newa (ty := .long) d88_61 rfl rfl wd_1492 (by decide) (fun _ _ => rfl) (Or.inr ⟨by decide, rfl⟩))) (xT_l (s_putF (T := TX12) (N := 70) (ty := tyX12) d88_63 rfl inX12 tyX12_ok nmX12 (by decide) wd_1290 (Or.inr (Or.inr ⟨rfl, Or.inr ⟨_, rfl⟩⟩)) rfl rfl rfl)))) (xT_n (xT_l (s_aload_n d88_66)) (xT_n (xT_l (s_iconst d88_67 (by decide +kernel))) (xT_l (s_putf (T := TX12) (N := 70) (ty := tyX12) d88_68 rfl inX12 tyX12_ok nmX12 (by decide) wd_1298 (Or.inl ⟨rfl, rfl⟩) rfl))))) (xT_n (xT_n (xT_l (s_aload_n d88_71)) (xT_n (xT_l (s_bipush d88_72 (by decide +kernel))) (xT_l (s_newa (ty := .long) d88_74 rfl rfl wd_1492 (by decide) (fun _ _ => rfl) (Or.inr ⟨by decide, rfl⟩))))) (xT_n (xT_n (xT_l (s_putF (T := TX12) (N := 70) (ty := tyX12) d88_76 rfl inX12 tyX12_ok nmX12 (by decide) wd_1302 (Or.inr (Or.inr ⟨rfl, Or.inr ⟨_, rfl⟩⟩)) rfl rfl rfl)) (xT_l (s_aload_n d88_79))) (xT_n (xT_l (s_iconst d88_80 (by decide +kernel))) (xT_l (s_newa (ty := .int) d88_81 rfl rfl wd_253 (by decide) (fun _ _ => rfl) (Or.inl ⟨by decide, rfl⟩))))))) (xT_n (xT_n (xT_n (xT_l (s_putF (T := TX12) (N := 70) (ty := tyX12) d88_83 rfl inX12 tyX12_ok nmX12 (by decide) wd_1303 (Or.inr (Or.inr ⟨rfl, Or.inr ⟨_, rfl⟩⟩)) rfl rfl rfl)) (xT_n (xT_l (s_aload_n d88_86)) (xT_l (s_bipush d88_87 (by decide +kernel))))) (xT_n (xT_n (xT_l (s_newa (ty := .int) d88_89 rfl rfl wd_253 (by decide) (fun _ _ => rfl) (Or.inl ⟨by decide, rfl⟩))) (xT_l (s_putF (T := TX12) (N := 70) (ty := tyX12) d88_91 rfl inX12 tyX12_ok nmX12 (by decide) wd_1304 (Or.inr (Or.inr ⟨rfl, Or.inr ⟨_, rfl⟩⟩)) rfl rfl rfl))) (xT_n (xT_l (s_aload_n d88_94)) (xT_l (s_iconst d88_95 (by decide +kernel)))))) (xT_n (xT_n (xT_l (s_newa (ty := .int) d88_96 rfl rfl wd_253 (by decide) (fun _ _ => rfl) (Or.inl ⟨by decide, rfl⟩))) (xT_n (xT_l (s_putF (T := TX12) (N := 70) (ty := tyX12) d88_98 rfl inX12 tyX12_ok nmX12 (by decide) wd_1305 (Or.inr (Or.inr ⟨rfl, Or.inr ⟨_, rfl⟩⟩)) rfl rfl rfl)) (xT_l (s_aload_n d88_101)))) (xT_n (xT_n (xT_l (s_bipush d88_102 (by decide +kernel))) (xT_l (s_newa (ty := .int) d88_104 rfl rfl wd_253 (by decide) (fun _ _ => rfl) (Or.inl ⟨by decide, rfl⟩)))) (xT_n (xT_l (s_putF (T := TX12) (N := 70) (ty := tyX12) d88_106 rfl inX12 tyX12_ok nmX12 (by decide) wd_1306 (Or.inr (Or.inr ⟨rfl, Or.inr ⟨_, rfl⟩⟩)) rfl rfl rfl)) (xT_l (s_aload_n d88_109)))))))) (xT_n (xT_n (xT_n (xT_n (xT_n (xT_l (s_bipush d88_110 (by decide +kernel))) (xT_n (xT_l (s_newa (ty := .int) d88_112 rfl rfl wd_253 (by decide) (fun _ _ => rfl) (Or.inl ⟨by decide, rfl⟩))) (xT_l (s_putF (T := TX12) (N := 70) (ty := tyX12) d88_114 rfl inX12 tyX12_ok nmX12 (by decide) wd_1307 (Or.inr (Or.inr ⟨rfl, Or.inr ⟨_, rfl⟩⟩)) rfl rfl rfl)))) (xT_n (xT_l (s_aload_n d88_117)) (xT_n (xT_l (s_bipush d88_118 (by decide +kernel))) (xT_l (s_newa (ty := .int) d88_120 rfl rfl wd_253 (by decide) (fun _ _ => rfl) (Or.inl ⟨by decide, rfl⟩)))))) (xT_n (xT_n (xT_l (s_putF (T := TX12) (N := 70) (ty := tyX12) d88_122 rfl inX12 tyX12_ok nmX12 (by decide) wd_1308 (Or.inr (Or.inr ⟨rfl, Or.inr ⟨_, rfl⟩⟩)) rfl rfl rfl)) (xT_n (xT_l (s_aload_n d88_125)) (xT_l (s_bipush d88_126 (by decide +kernel))))) (xT_n (xT_n (xT_l (s_newa (ty := .int) d88_128 rfl rfl wd_253 (by decide) (fun _ _ => rfl) (Or.inl ⟨by decide, rfl⟩))) (xT_l (s_putF (T := TX12) (N := 70) (ty := tyX12) d88_130 rfl inX12 tyX12_ok nmX12 (by decide) wd_1309 (Or.inr (Or.inr ⟨rfl, Or.inr ⟨_, rfl⟩⟩)) rfl rfl rfl))) (xT_n (xT_l (s_aload_n d88_133)) (xT_l (s_iconst d88_134 (by decide +kernel))))))) (xT_n (xT_n (xT_n (xT_l (s_newa (ty := .int) d88_135 rfl rfl wd_253 (by decide) (fun _ _ => rfl) (Or.inl ⟨by decide, rfl⟩))) (xT_n (xT_l (s_putF (T := TX12) (N := 70) (ty := tyX12) d88_137 rfl inX12 tyX12_ok nmX12 (by decide) wd_1310 (Or.inr (Or.inr ⟨rfl, Or.inr ⟨_, rfl⟩⟩)) rfl rfl rfl)) (xT_l (s_aload_n d88_140)))) (xT_n (xT_n (xT_l (s_iconst d88_141 (by decide +kernel))) (xT_l (s_newa (ty := .int) d88_142 rfl rfl wd_253 (by decide) (fun _ _ => rfl) (Or.inl ⟨by decide, rfl⟩)))) (xT_n (xT_l (s_putF (T := TX12) (N := 70) (ty := tyX12) d88_144 rfl inX12 tyX12_ok nmX12 (by decide) wd_1311 (Or.inr (Or.inr ⟨rfl, Or.inr ⟨_, rfl⟩⟩)) rfl rfl rfl)) (xT_l (s_aload_n d88_147))))) (xT_n (xT_n (xT_l (s_iconst d88_148 (by decide +kernel))) (xT_n (xT_l (s_newa (ty := .int) d88_149 rfl rfl wd_253 (by decide) (fun _ _ => rfl) (Or.inl ⟨by decide, rfl⟩))) (xT_l (s_putF (T := TX12) (N := 70) (ty := tyX12) d88_151 rfl inX12 tyX12_ok nmX12 (by decide) wd_1312 (Or.inr (Or.inr ⟨rfl, Or.inr ⟨_, rfl⟩⟩)) rfl rfl rfl)))) (xT_n (xT_n (xT_l (s_aload_n d88_154)) (xT_l (s_bipush d88_155 (by decide +kernel)))) (xT_n (xT_l (s_newa (ty := .int) d88_157 rfl rfl wd_253 (by decide) (fun _ _ => rfl) (Or.inl ⟨by decide, rfl⟩))) (xT_l (s_putF (T := TX12) (N := 70) (ty := tyX12) d88_159 rfl inX12 tyX12_ok nmX12 (by decide) wd_1313 (Or.inr (Or.inr ⟨rfl, Or.inr ⟨_, rfl⟩⟩)) rfl rfl rfl))))))) (xT_n (xT_n (xT_n (xT_n (xT_l (s_aload_n d88_162)) (xT_n (xT_l (s_bipush d88_163 (by decide +kernel))) (xT_l (s_newa (ty := .int) d88_165 rfl rfl wd_253 (by decide) (fun _ _ => rfl) (Or.inl ⟨by decide, rfl⟩))))) (xT_n (xT_n (xT_l (s_putF (T := TX12) (N := 70) (ty := tyX12) d88_167 rfl inX12 tyX12_ok nmX12 (by decide) wd_1314 (Or.inr (Or.inr ⟨rfl, Or.inr ⟨_, rfl⟩⟩)) rfl rfl rfl)) (xT_l (s_aload_n d88_170))) (xT_n (xT_l (s_sipush d88_171 (by decide +kernel))) (xT_l (s_newa (ty := .boolean) d88_174 rfl rfl wd_415 (by decide) (fun _ _ => rfl) (Or.inl ⟨by decide, rfl⟩)))))) (xT_n (xT_n (xT_l (s_putF (T := TX12) (N := 70) (ty := tyX12) d88_176 rfl inX12 tyX12_ok nmX12 (by decide) wd_1316 (Or.inr (Or.inr ⟨rfl, Or.inr ⟨_, rfl⟩⟩)) rfl rfl rfl)) (xT_n (xT_l (s_aload_n d88_179)) (xT_l (s_sipush d88_180 (by decide +kernel))))) (xT_n (xT_n (xT_l (s_newa (ty := .int) d88_183 rfl rfl wd_253 (by decide) (fun _ _ => rfl) (Or.inl ⟨by decide, rfl⟩))) (xT_l (s_putF (T := TX12) (N := 70) (ty := tyX12) d88_185 rfl inX12 tyX12_ok nmX12 (by decide) wd_1317 (Or.inr (Or.inr ⟨rfl, Or.inr ⟨_, rfl⟩⟩)) rfl rfl rfl))) (xT_n (xT_l (s_aload_n d88_188)) (xT_l (s_sipush d88_189 (by decide +kernel))))))) (xT_n (xT_n (xT_n (xT_l (s_newa (ty := .int) d88_192 rfl rfl wd_253 (by decide) (fun _ _ => rfl) (Or.inl ⟨by decide, rfl⟩))) (xT_n (xT_l (s_putF (T := TX12) (N := 70) (ty := tyX12) d88_194 rfl inX12 tyX12_ok nmX12 (by decide) wd_1318 (Or.inr (Or.inr ⟨rfl, Or.inr ⟨_, rfl⟩⟩)) rfl rfl rfl)) (xT_l (s_aload_n d88_197)))) (xT_n (xT_n (xT_l (s_sipush d88_198 (by decide +kernel))) (xT_l (s_newa (ty := .int) d88_201 rfl rfl wd_253 (by decide) (fun _ _ => rfl) (Or.inl ⟨by decide, rfl⟩)))) (xT_n (xT_l (s_putF (T := TX12) (N := 70) (ty := tyX12) d88_203 rfl inX12 tyX12_ok nmX12 (by decide) wd_1319 (Or.inr (Or.inr ⟨rfl, Or.inr ⟨_, rfl⟩⟩)) rfl rfl rfl)) (xT_l (s_aload_n d88_206))))) (xT_n (xT_n (xT_l (s_sipush d88_207 (by decide +kernel))) (xT_n (xT_l (s_newa (ty := .int) d88_210 rfl rfl wd_253 (by decide) (fun _ _ => rfl) (Or.inl ⟨by decide, rfl⟩))) (xT_l (s_putF (T := TX12) (N := 70) (ty := tyX12) d88_212 rfl inX12 tyX12_ok nmX12 (by decide) wd_1320 (Or.inr (Or.inr ⟨rfl, Or.inr ⟨_, rfl⟩⟩)) rfl rfl rfl)))) (xT_n (xT_n (xT_l (s_aload_n d88_215)) (xT_l (s_sipush d88_216 (by decide +kernel)))) (xT_n (xT_l (s_newa (ty := .int) d88_219 rfl rfl wd_253 (by decide) (fun _ _ => rfl) (Or.inl ⟨by decide, rfl⟩))) (xT_l (s_putF (T := TX12) (N := 70) (ty := tyX12) d88_221 rfl inX12 tyX12_ok nmX12 (by decide) wd_1322 (Or.inr (Or.inr ⟨rfl, Or.inr ⟨_, rfl⟩⟩)) rfl rfl rfl))))))))) (xT_n (xT_n (xT_n (xT_n (xT_n (xT_n (xT_l (s_aload_n d88_224)) (xT_n (xT_l (s_sipush d88_225 (by decide +kernel))) (xT_l (s_newa (ty := .int) d88_228 rfl rfl wd_253 (by decide) (fun _ _ => rfl) (Or.inl ⟨by decide, rfl⟩))))) (xT_n (xT_l (s_putF (T := TX12) (N := 70) (ty := tyX12) d88_230 rfl inX12 tyX12_ok nmX12 (by decide) wd_1323 (Or.inr (Or.inr ⟨rfl, Or.inr ⟨_, rfl⟩⟩)) rfl rfl rfl)) (xT_n (xT_l (s_aload_n d88_233)) (xT_l (s_bipush d88_234 (by decide +kernel)))))) (xT_n (xT_n (xT_l (s_newa (ty := .int) d88_236 rfl rfl wd_253 (by decide) (fun _ _ => rfl) (Or.inl ⟨by decide, rfl⟩))) (xT_n (xT_l (s_putF (T := TX12) (N := 70) (ty := tyX12) d88_238 rfl inX12 tyX12_ok nmX12 (by decide) wd_1324 (Or.inr (Or.inr ⟨rfl, Or.inr ⟨_, rfl⟩⟩)) rfl rfl rfl)) (xT_l (s_aload_n d88_241)))) (xT_n (xT_n (xT_l (s_bipush d88_242 (by decide +kernel))) (xT_l (s_newa (ty := .int) d88_244 rfl rfl wd_253 (by decide) (fun _ _ => rfl) (Or.inl ⟨by decide, rfl⟩)))) (xT_n (xT_l (s_putF (T := TX12) (N := 70) (ty := tyX12) d88_246 rfl inX12 tyX12_ok nmX12 (by decide) wd_1326 (Or.inr (Or.inr ⟨rfl, Or.inr ⟨_, rfl⟩⟩)) rfl rfl rfl)) (xT_l (s_aload_n d88_249)))))) (xT_n (xT_n (xT_n (xT_l (s_bipush d88_250 (by decide +kernel))) (xT_n (xT_l (s_newa (ty := .int) d88_252 rfl rfl wd_253 (by decide) (fun _ _ => rfl) (Or.inl ⟨by decide, rfl⟩))) (xT_l (s_putF (T := TX12) (N := 70) (ty := tyX12) d88_254 rfl inX12 tyX12_ok nmX12 (by decide) wd_1328 (Or.inr (Or.inr ⟨rfl, Or.inr ⟨_, rfl⟩⟩)) rfl rfl rfl)))) (xT_n (xT_n (xT_l (s_aload_n d88_257)) (xT_l (s_sipush d88_258 (by decide +kernel)))) (xT_n (xT_l (s_newa (ty := .int) d88_261 rfl rfl wd_253 (by decide) (fun _ _ => rfl) (Or.inl ⟨by decide, rfl⟩))) (xT_l (s_putF (T := TX12) (N := 70) (ty := tyX12) d88_263 rfl inX12 tyX12_ok nmX12 (by decide) wd_1329 (Or.inr (Or.inr ⟨rfl, Or.inr ⟨_, rfl⟩⟩)) rfl rfl rfl))))) (xT_n (xT_n (xT_l (s_aload_n d88_266)) (xT_n (xT_l (s_sipush d88_267 (by decide +kernel))) (xT_l (s_newa (ty := .int) d88_270 rfl rfl wd_253 (by decide) (fun _ _ => rfl) (Or.inl ⟨by decide, rfl⟩))))) (xT_n (xT_n (xT_l (s_putF (T := TX12) (N := 70) (ty := tyX12) d88_272 rfl inX12 tyX12_ok nmX12 (by decide) wd_1331 (Or.inr (Or.inr ⟨rfl, Or.inr ⟨_, rfl⟩⟩)) rfl rfl rfl)) (xT_l (s_aload_n d88_275))) (xT_n (xT_l (s_sipush d88_276 (by decide +kernel))) (xT_l (s_newa (ty := .int) d88_279 rfl rfl wd_253 (by decide) (fun _ _ => rfl) (Or.inl ⟨by decide, rfl⟩)))))))) (xT_n (xT_n (xT_n (xT_n (xT_l (s_putF (T := TX12) (N := 70) (ty := tyX12) d88_281 rfl inX12 tyX12_ok nmX12 (by decide) wd_1332 (Or.inr (Or.inr ⟨rfl, Or.inr ⟨_, rfl⟩⟩)) rfl rfl rfl)) (xT_n (xT_l (s_aload_n d88_284)) (xT_l (s_bipush d88_285 (by decide +kernel))))) (xT_n (xT_l (s_newa (ty := .boolean) d88_287 rfl rfl wd_415 (by decide) (fun _ _ => rfl) (Or.inl ⟨by decide, rfl⟩))) (xT_n (xT_l (s_putF (T := TX12) (N := 70) (ty := tyX12) d88_289 rfl inX12 tyX12_ok nmX12 (by decide) wd_1337 (Or.inr (Or.inr ⟨rfl, Or.inr ⟨_, rfl⟩⟩)) rfl rfl rfl)) (xT_l (s_aload_n d88_292))))) (xT_n (xT_n (xT_l (s_bipush d88_293 (by decide +kernel))) (xT_n (xT_l (s_newa (ty := .int) d88_295 rfl rfl wd_253 (by decide) (fun _ _ => rfl) (Or.inl ⟨by decide, rfl⟩))) (xT_l (s_putF (T := TX12) (N := 70) (ty := tyX12) d88_297 rfl inX12 tyX12_ok nmX12 (by decide) wd_1338 (Or.inr (Or.inr ⟨rfl, Or.inr ⟨_, rfl⟩⟩)) rfl rfl rfl)))) (xT_n (xT_n (xT_l (s_aload_n d88_300)) (xT_l (s_bipush d88_301 (by decide +kernel)))) (xT_n (xT_l (s_newa (ty := .int) d88_303 rfl rfl wd_253 (by decide) (fun _ _ => rfl) (Or.inl ⟨by decide, rfl⟩))) (xT_l (s_putF (T := TX12) (N := 70) (ty := tyX12) d88_305 rfl inX12 tyX12_ok nmX12 (by decide) wd_1339 (Or.inr (Or.inr ⟨rfl, Or.inr ⟨_, rfl⟩⟩)) rfl rfl rfl)))))) (xT_n (xT_n (xT_n (xT_l (s_aload_n d88_308)) (xT_n (xT_l (s_sipush d88_309 (by decide +kernel))) (xT_l (s_newa (ty := .int) d88_312 rfl rfl wd_253 (by decide) (fun _ _ => rfl) (Or.inl ⟨by decide, rfl⟩))))) (xT_n (xT_n (xT_l (s_putF (T := TX12) (N := 70) (ty := tyX12) d88_314 rfl inX12 tyX12_ok nmX12 (by decide) wd_1341 (Or.inr (Or.inr ⟨rfl, Or.inr ⟨_, rfl⟩⟩)) rfl rfl rfl)) (xT_l (s_aload_n d88_317))) (xT_n (xT_l (s_sipush d88_318 (by decide +kernel))) (xT_l (s_newa (ty := .int) d88_321 rfl rfl wd_253 (by decide) (fun _ _ => rfl) (Or.inl ⟨by decide, rfl⟩)))))) (xT_n (xT_n (xT_l (s_putF (T := TX12) (N := 70) (ty := tyX12) d88_323 rfl inX12 tyX12_ok nmX12 (by decide) wd_1342 (Or.inr (Or.inr ⟨rfl, Or.inr ⟨_, rfl⟩⟩)) rfl rfl rfl)) (xT_n (xT_l (s_aload_n d88_326)) (xT_l (s_bipush d88_327 (by decide +kernel))))) (xT_n (xT_n (xT_l (s_newa (ty := .int) d88_329 rfl rfl wd_253 (by decide) (fun _ _ => rfl) (Or.inl ⟨by decide, rfl⟩))) (xT_l (s_putF (T := TX12) (N := 70) (ty := tyX12) d88_331 rfl inX12 tyX12_ok nmX12 (by decide) wd_1346 (Or.inr (Or.inr ⟨rfl, Or.inr ⟨_, rfl⟩⟩)) rfl rfl rfl))) (xT_n (xT_l (s_aload_n d88_334)) (xT_l (s_bipush d88_335 (by decide +kernel))))))))) (xT_n (xT_n (xT_n (xT_n (xT_n (xT_l (s_newa (ty := .int) d88_337 rfl rfl wd_253 (by decide) (fun _ _ => rfl) (Or.inl ⟨by decide, rfl⟩))) (xT_n (xT_l (s_putF (T := TX12) (N := 70) (ty := tyX12) d88_339 rfl inX12 tyX12_ok nmX12 (by decide) wd_1347 (Or.inr (Or.inr ⟨rfl, Or.inr ⟨_, rfl⟩⟩)) rfl rfl rfl)) (xT_l (s_aload_n d88_342)))) (xT_n (xT_l (s_bipush d88_343 (by decide +kernel))) (xT_n (xT_l (s_newa (ty := .boolean) d88_345 rfl rfl wd_415 (by decide) (fun _ _ => rfl) (Or.inl ⟨by decide, rfl⟩))) (xT_l (s_putF (T := TX12) (N := 70) (ty := tyX12) d88_347 rfl inX12 tyX12_ok nmX12 (by decide) wd_1348 (Or.inr (Or.inr ⟨rfl, Or.inr ⟨_, rfl⟩⟩)) rfl rfl rfl))))) (xT_n (xT_n (xT_l (s_aload_n d88_350)) (xT_n (xT_l (s_iconst d88_351 (by decide +kernel))) (xT_l (s_newa (ty := .boolean) d88_352 rfl rfl wd_415 (by decide) (fun _ _ => rfl) (Or.inl ⟨by decide, rfl⟩))))) (xT_n (xT_n (xT_l (s_putF (T := TX12) (N := 70) (ty := tyX12) d88_354 rfl inX12 tyX12_ok nmX12 (by decide) wd_1349 (Or.inr (Or.inr ⟨rfl, Or.inr ⟨_, rfl⟩⟩)) rfl rfl rfl)) (xT_l (s_aload_n d88_357))) (xT_n (xT_l (s_sipush d88_358 (by decide +kernel))) (xT_l (s_newa (ty := .int) d88_361 rfl rfl wd_253 (by decide) (fun _ _ => rfl) (Or.inl ⟨by decide, rfl⟩))))))) (xT_n (xT_n (xT_n (xT_l (s_putF (T := TX12) (N := 70) (ty := tyX12) d88_363 rfl inX12 tyX12_ok nmX12 (by decide) wd_1350 (Or.inr (Or.inr ⟨rfl, Or.inr ⟨_, rfl⟩⟩)) rfl rfl rfl)) (xT_n (xT_l (s_aload_n d88_366)) (xT_l (s_iconst d88_367 (by decide +kernel))))) (xT_n (xT_n (xT_l (s_invV (T := TX12) d88_368 cal_132 rfl wd_1263 wd_1265 wd_44)) (xT_l (s_aload_n d88_371))) (xT_n (xT_l (s_getf (T := TX12) (N := 70) d88_372 rfl inX12 (by decide) wd_1290)) (xT_l (s_iconst d88_375 (by decide +kernel)))))) (xT_n (xT_n (xT_l (s_bipush d88_376 (by decide +kernel))) (xT_n (xT_l (s_bipush d88_378 (by decide +kernel))) (xT_l (s_bipush d88_380 (by decide +kernel))))) (xT_n (xT_n (xT_l (s_bipush d88_382 (by decide +kernel))) (xT_l (s_bipush d88_384 (by decide +kernel)))) (xT_n (xT_l (s_iconst d88_386 (by decide +kernel))) (xT_l (s_iconst d88_387 (by decide +kernel)))))))) (xT_n (xT_n (xT_n (xT_n (xT_l (s_invS d88_388 cal_151 wd_1267 wd_1268)) (xT_n (xT_l (s_last d88_391)) (xT_l (s_aload_n d88_392)))) (xT_n (xT_n (xT_l (s_getf (T := TX12) (N := 70) d88_393 rfl inX12 (by decide) wd_1290)) (xT_l (s_iconst d88_396 (by decide +kernel)))) (xT_n (xT_l (s_bipush d88_397 (by decide +kernel))) (xT_l (s_bipush d88_399 (by decide +kernel)))))) (xT_n (xT_n (xT_l (s_bipush d88_401 (by decide +kernel))) (xT_n (xT_l (s_bipush d88_403 (by decide +kernel))) (xT_l (s_bipush d88_405 (by decide +kernel))))) (xT_n (xT_n (xT_l (s_iconst d88_407 (by decide +kernel))) (xT_l (s_iconst d88_408 (by decide +kernel)))) (xT_n (xT_l (s_invS d88_409 cal_151 wd_1267 wd_1268)) (xT_l (s_last d88_412)))))) (xT_n (xT_n (xT_n (xT_l (s_aload_n d88_413)) (xT_n (xT_l (s_getf (T := TX12) (N := 70) d88_414 rfl inX12 (by decide) wd_1290)) (xT_l (s_iconst d88_417 (by decide +kernel))))) (xT_n (xT_n (xT_l (s_bipush d88_418 (by decide +kernel))) (xT_l (s_bipush d88_420 (by decide +kernel)))) (xT_n (xT_l (s_bipush d88_422 (by decide +kernel))) (xT_l (s_bipush d88_424 (by decide +kernel)))))) (xT_n (xT_n (xT_l (s_bipush d88_426 (by decide +kernel))) (xT_n (xT_l (s_iconst d88_428 (by decide +kernel))) (xT_l (s_iconst d88_429 (by decide +kernel))))) (xT_n (xT_n (xT_l (s_invS d88_430 cal_151 wd_1267 wd_1268)) (xT_l (s_last d88_433))) (xT_n (xT_l (s_aload_n d88_434)) (xT_l (s_getf (T := TX12) (N := 70) d88_435 rfl inX12 (by decide) wd_1290)))))))))) (xT_n (xT_n (xT_n (xT_n (xT_n (xT_n (xT_n (xT_l (s_iconst d88_438 (by decide +kernel))) (xT_n (xT_l (s_bipush d88_439 (by decide +kernel))) (xT_l (s_bipush d88_441 (by decide +kernel))))) (xT_n (xT_l (s_bipush d88_443 (by decide +kernel))) (xT_n (xT_l (s_bipush d88_445 (by decide +kernel))) (xT_l (s_iconst d88_447 (by decide +kernel)))))) (xT_n (xT_n (xT_l (s_iconst d88_448 (by decide +kernel))) (xT_n (xT_l (s_iconst d88_449 (by decide +kernel))) (xT_l (s_invS d88_450 cal_151 wd_1267 wd_1268)))) (xT_n (xT_n (xT_l (s_last d88_453)) (xT_l (s_aload_n d88_454))) (xT_n (xT_l (s_getf (T := TX12) (N := 70) d88_455 rfl inX12 (by decide) wd_1290)) (xT_l (s_iconst d88_458 (by decide +kernel))))))) (xT_n (xT_n (xT_n (xT_l (s_bipush d88_459 (by decide +kernel))) (xT_n (xT_l (s_bipush d88_461 (by decide +kernel))) (xT_l (s_bipush d88_463 (by decide +kernel))))) (xT_n (xT_n (xT_l (s_bipush d88_465 (by decide +kernel))) (xT_l (s_bipush d88_467 (by decide +kernel)))) (xT_n (xT_l (s_iconst d88_469 (by decide +kernel))) (xT_l (s_iconst d88_470 (by decide +kernel)))))) (xT_n (xT_n (xT_l (s_invS d88_471 cal_151 wd_1267 wd_1268)) (xT_n (xT_l (s_last d88_474)) (xT_l (s_aload_n d88_475)))) (xT_n (xT_n (xT_l (s_getf (T := TX12) (N := 70) d88_476 rfl inX12 (by decide) wd_1290)) (xT_l (s_iconst d88_479 (by decide +kernel)))) (xT_n (xT_l (s_bipush d88_480 (by decide +kernel))) (xT_l (s_bipush d88_482 (by decide +kernel)))))))) (xT_n (xT_n (xT_n (xT_n (xT_l (s_bipush d88_484 (by decide +kernel))) (xT_n (xT_l (s_bipush d88_486 (by decide +kernel))) (xT_l (s_iconst d88_488 (by decide +kernel))))) (xT_n (xT_l (s_iconst d88_489 (by decide +kernel))) (xT_n (xT_l (s_iconst d88_490 (by decide +kernel))) (xT_l (s_invS d88_491 cal_151 wd_1267 wd_1268))))) (xT_n (xT_n (xT_l (s_last d88_494)) (xT_n (xT_l (s_aload_n d88_495)) (xT_l (s_getf (T := TX12) (N := 70) d88_496 rfl inX12 (by decide) wd_1290)))) (xT_n (xT_n (xT_l (s_bipush d88_499 (by decide +kernel))) (xT_l (s_bipush d88_501 (by decide +kernel)))) (xT_n (xT_l (s_bipush d88_503 (by decide +kernel))) (xT_l (s_bipush d88_505 (by decide +kernel))))))) (xT_n (xT_n (xT_n (xT_l (s_bipush d88_507 (by decide +kernel))) (xT_n (xT_l (s_bipush d88_509 (by decide +kernel))) (xT_l (s_bipush d88_511 (by decide +kernel))))) (xT_n (xT_n (xT_l (s_iconst d88_513 (by decide +kernel))) (xT_l (s_invS d88_514 cal_151 wd_1267 wd_1268))) (xT_n (xT_l (s_last d88_517)) (xT_l (s_aload_n d88_518))))) (xT_n (xT_n (xT_l (s_getf (T := TX12) (N := 70) d88_519 rfl inX12 (by decide) wd_1290)) (xT_n (xT_l (s_bipush d88_522 (by decide +kernel))) (xT_l (s_bipush d88_524 (by decide +kernel))))) (xT_n (xT_n (xT_l (s_bipush d88_526 (by decide +kernel))) (xT_l (s_bipush d88_528 (by decide +kernel)))) (xT_n (xT_l (s_bipush d88_530 (by decide +kernel))) (xT_l (s_bipush d88_532 (by decide +kernel))))))))) (xT_n (xT_n (xT_n (xT_n (xT_n (xT_l (s_bipush d88_534 (by decide +kernel))) (xT_n (xT_l (s_bipush d88_536 (by decide +kernel))) (xT_l (s_invS d88_538 cal_151 wd_1267 wd_1268)))) (xT_n (xT_l (s_last d88_541)) (xT_n (xT_l (s_aload_n d88_542)) (xT_l (s_getf (T := TX12) (N := 70) d88_543 rfl inX12 (by decide) wd_1290))))) (xT_n (xT_n (xT_l (s_bipush d88_546 (by decide +kernel))) (xT_n (xT_l (s_bipush d88_548 (by decide +kernel))) (xT_l (s_bipush d88_550 (by decide +kernel))))) (xT_n (xT_n (xT_l (s_bipush d88_552 (by decide +kernel))) (xT_l (s_bipush d88_554 (by decide +kernel)))) (xT_n (xT_l (s_iconst d88_556 (by decide +kernel))) (xT_l (s_iconst d88_557 (by decide +kernel))))))) (xT_n (xT_n (xT_n (xT_l (s_iconst d88_558 (by decide +kernel))) (xT_n (xT_l (s_invS d88_559 cal_151 wd_1267 wd_1268)) (xT_l (s_last d88_562)))) (xT_n (xT_n (xT_l (s_aload_n d88_563)) (xT_l (s_getf (T := TX12) (N := 70) d88_564 rfl inX12 (by decide) wd_1290))) (xT_n (xT_l (s_bipush d88_567 (by decide +kernel))) (xT_l (s_bipush d88_569 (by decide +kernel)))))) (xT_n (xT_n (xT_l (s_bipush d88_571 (by decide +kernel))) (xT_n (xT_l (s_iconst d88_573 (by decide +kernel))) (xT_l (s_iconst d88_574 (by decide +kernel))))) (xT_n (xT_n (xT_l (s_iconst d88_575 (by decide +kernel))) (xT_l (s_iconst d88_576 (by decide +kernel)))) (xT_n (xT_l (s_iconst d88_577 (by decide +kernel))) (xT_l (s_invS d88_578 cal_151 wd_1267 wd_1268))))))) (xT_n (xT_n (xT_n (xT_n (xT_l (s_last d88_581)) (xT_n (xT_l (s_aload_n d88_582)) (xT_l (s_getf (T := TX12) (N := 70) d88_583 rfl inX12 (by decide) wd_1290)))) (xT_n (xT_n (xT_l (s_bipush d88_586 (by decide +kernel))) (xT_l (s_bipush d88_588 (by decide +kernel)))) (xT_n (xT_l (s_bipush d88_590 (by decide +kernel))) (xT_l (s_bipush d88_592 (by decide +kernel)))))) (xT_n (xT_n (xT_l (s_bipush d88_594 (by decide +kernel))) (xT_n (xT_l (s_iconst d88_596 (by decide +kernel))) (xT_l (s_iconst d88_597 (by decide +kernel))))) (xT_n (xT_n (xT_l (s_iconst d88_598 (by decide +kernel))) (xT_l (s_invS d88_599 cal_151 wd_1267 wd_1268))) (xT_n (xT_l (s_last d88_602)) (xT_l (s_aload_n d88_603)))))) (xT_n (xT_n (xT_n (xT_l (s_getf (T := TX12) (N := 70) d88_604 rfl inX12 (by decide) wd_1290)) (xT_n (xT_l (s_bipush d88_607 (by decide +kernel))) (xT_l (s_bipush d88_609 (by decide +kernel))))) (xT_n (xT_n (xT_l (s_bipush d88_611 (by decide +kernel))) (xT_l (s_bipush d88_613 (by decide +kernel)))) (xT_n (xT_l (s_bipush d88_615 (by decide +kernel))) (xT_l (s_iconst d88_617 (by decide +kernel)))))) (xT_n (xT_n (xT_l (s_iconst d88_618 (by decide +kernel))) (xT_n (xT_l (s_iconst d88_619 (by decide +kernel))) (xT_l (s_invS d88_620 cal_151 wd_1267 wd_1268)))) (xT_n (xT_n (xT_l (s_last d88_623)) (xT_l (s_aload_n d88_624))) (xT_n (xT_l (s_getf (T := TX12) (N := 70) d88_625 rfl inX12 (by decide) wd_1290)) (xT_l (s_bipush d88_628 (by decide +kernel)))))))))) (xT_n (xT_n (xT_n (xT_n (xT_n (xT_n (xT_l (s_bipush d88_630 (by decide +kernel))) (xT_n (xT_l (s_bipush d88_632 (by decide +kernel))) (xT_l (s_bipush d88_634 (by decide +kernel))))) (xT_n (xT_l (s_bipush d88_636 (by decide +kernel))) (xT_n (xT_l (s_bipush d88_638 (by decide +kernel))) (xT_l (s_iconst d88_640 (by decide +kernel)))))) (xT_n (xT_n (xT_l (s_iconst d88_641 (by decide +kernel))) (xT_n (xT_l (s_invS d88_642 cal_151 wd_1267 wd_1268)) (xT_l (s_last d88_645)))) (xT_n (xT_n (xT_l (s_aload_n d88_646)) (xT_l (s_getf (T := TX12) (N := 70) d88_647 rfl inX12 (by decide) wd_1290))) (xT_n (xT_l (s_bipush d88_650 (by decide +kernel))) (xT_l (s_bipush d88_652 (by decide +kernel))))))) (xT_n (xT_n (xT_n (xT_l (s_bipush d88_654 (by decide +kernel))) (xT_n (xT_l (s_bipush d88_656 (by decide +kernel))) (xT_l (s_iconst d88_658 (by decide +kernel))))) (xT_n (xT_n (xT_l (s_iconst d88_659 (by decide +kernel))) (xT_l (s_iconst d88_660 (by decide +kernel)))) (xT_n (xT_l (s_iconst d88_661 (by decide +kernel))) (xT_l (s_invS d88_662 cal_151 wd_1267 wd_1268))))) (xT_n (xT_n (xT_l (s_last d88_665)) (xT_n (xT_l (s_aload_n d88_666)) (xT_l (s_getf (T := TX12) (N := 70) d88_667 rfl inX12 (by decide) wd_1290)))) (xT_n (xT_n (xT_l (s_bipush d88_670 (by decide +kernel))) (xT_l (s_bipush d88_672 (by decide +kernel)))) (xT_n (xT_l (s_bipush d88_674 (by decide +kernel))) (xT_l (s_bipush d88_676 (by decide +kernel)))))))) (xT_n (xT_n (xT_n (xT_n (xT_l (s_iconst d88_678 (by decide +kernel))) (xT_n (xT_l (s_iconst d88_679 (by decide +kernel))) (xT_l (s_iconst d88_680 (by decide +kernel))))) (xT_n (xT_l (s_iconst d88_681 (by decide +kernel))) (xT_n (xT_l (s_invS d88_682 cal_151 wd_1267 wd_1268)) (xT_l (s_last d88_685))))) (xT_n (xT_n (xT_l (s_aload_n d88_686)) (xT_n (xT_l (s_getf (T := TX12) (N := 70) d88_687 rfl inX12 (by decide) wd_1290)) (xT_l (s_bipush d88_690 (by decide +kernel))))) (xT_n (xT_n (xT_l (s_bipush d88_692 (by decide +kernel))) (xT_l (s_bipush d88_694 (by decide +kernel)))) (xT_n (xT_l (s_bipush d88_696 (by decide +kernel))) (xT_l (s_bipush d88_698 (by decide +kernel))))))) (xT_n (xT_n (xT_n (xT_l (s_iconst d88_700 (by decide +kernel))) (xT_n (xT_l (s_iconst d88_701 (by decide +kernel))) (xT_l (s_iconst d88_702 (by decide +kernel))))) (xT_n (xT_n (xT_l (s_invS d88_703 cal_151 wd_1267 wd_1268)) (xT_l (s_last d88_706))) (xT_n (xT_l (s_aload_n d88_707)) (xT_l (s_getf (T := TX12) (N := 70) d88_708 rfl inX12 (by decide) wd_1290))))) (xT_n (xT_n (xT_l (s_bipush d88_711 (by decide +kernel))) (xT_n (xT_l (s_bipush d88_713 (by decide +kernel))) (xT_l (s_bipush d88_715 (by decide +kernel))))) (xT_n (xT_n (xT_l (s_bipush d88_717 (by decide +kernel))) (xT_l (s_iconst d88_719 (by decide +kernel)))) (xT_n (xT_l (s_iconst d88_720 (by decide +kernel))) (xT_l (s_iconst d88_721 (by decide +kernel))))))))) (xT_n (xT_n (xT_n (xT_n (xT_n (xT_l (s_iconst d88_722 (by decide +kernel))) (xT_n (xT_l (s_invS d88_723 cal_151 wd_1267 wd_1268)) (xT_l (s_last d88_726)))) (xT_n (xT_l (s_aload_n d88_727)) (xT_n (xT_l (s_getf (T := TX12) (N := 70) d88_728 rfl inX12 (by decide) wd_1290)) (xT_l (s_bipush d88_731 (by decide +kernel)))))) (xT_n (xT_n (xT_l (s_bipush d88_733 (by decide +kernel))) (xT_n (xT_l (s_bipush d88_735 (by decide +kernel))) (xT_l (s_bipush d88_737 (by decide +kernel))))) (xT_n (xT_n (xT_l (s_bipush d88_739 (by decide +kernel))) (xT_l (s_bipush d88_741 (by decide +kernel)))) (xT_n (xT_l (s_iconst d88_743 (by decide +kernel))) (xT_l (s_iconst d88_744 (by decide +kernel))))))) (xT_n (xT_n (xT_n (xT_l (s_invS d88_745 cal_151 wd_1267 wd_1268)) (xT_n (xT_l (s_last d88_748)) (xT_l (s_aload_n d88_749)))) (xT_n (xT_n (xT_l (s_getf (T := TX12) (N := 70) d88_750 rfl inX12 (by decide) wd_1290)) (xT_l (s_bipush d88_753 (by decide +kernel)))) (xT_n (xT_l (s_bipush d88_755 (by decide +kernel))) (xT_l (s_bipush d88_757 (by decide +kernel)))))) (xT_n (xT_n (xT_l (s_bipush d88_759 (by decide +kernel))) (xT_n (xT_l (s_bipush d88_761 (by decide +kernel))) (xT_l (s_bipush d88_763 (by decide +kernel))))) (xT_n (xT_n (xT_l (s_bipush d88_765 (by decide +kernel))) (xT_l (s_iconst d88_767 (by decide +kernel)))) (xT_n (xT_l (s_invS d88_768 cal_151 wd_1267 wd_1268)) (xT_l (s_last d88_771))))))) (xT_n (xT_n (xT_n (xT_n (xT_l (s_aload_n d88_772)) (xT_n (xT_l (s_getf (T := TX12) (N := 70) d88_773 rfl inX12 (by decide) wd_1290)) (xT_l (s_bipush d88_776 (by decide +kernel))))) (xT_n (xT_n (xT_l (s_bipush d88_778 (by decide +kernel))) (xT_l (s_bipush d88_780 (by decide +kernel)))) (xT_n (xT_l (s_bipush d88_782 (by decide +kernel))) (xT_l (s_bipush d88_784 (by decide +kernel)))))) (xT_n (xT_n (xT_l (s_iconst d88_786 (by decide +kernel))) (xT_n (xT_l (s_iconst d88_787 (by decide +kernel))) (xT_l (s_iconst d88_788 (by decide +kernel))))) (xT_n (xT_n (xT_l (s_invS d88_789 cal_151 wd_1267 wd_1268)) (xT_l (s_last d88_792))) (xT_n (xT_l (s_aload_n d88_793)) (xT_l (s_getf (T := TX12) (N := 70) d88_794 rfl inX12 (by decide) wd_1290)))))) (xT_n (xT_n (xT_n (xT_l (s_bipush d88_797 (by decide +kernel))) (xT_n (xT_l (s_bipush d88_799 (by decide +kernel))) (xT_l (s_bipush d88_801 (by decide +kernel))))) (xT_n (xT_n (xT_l (s_bipush d88_803 (by decide +kernel))) (xT_l (s_bipush d88_805 (by decide +kernel)))) (xT_n (xT_l (s_iconst d88_807 (by decide +kernel))) (xT_l (s_iconst d88_808 (by decide +kernel)))))) (xT_n (xT_n (xT_l (s_iconst d88_809 (by decide +kernel))) (xT_n (xT_l (s_invS d88_810 cal_151 wd_1267 wd_1268)) (xT_l (s_last d88_813)))) (xT_n (xT_n (xT_l (s_aload_n d88_814)) (xT_l (s_invV (T := TX12) d88_815 cal_95 rfl wd_1274 wd_1276 wd_45))) (xT_n (xT_l (s_aload_n d88_818)) (xT_l (s_invV (T := TX12) d88_819 cal_122 rfl wd_1278 wd_1280 wd_46)))))))))))
set_option maxRecDepth 100000 in
set_option maxHeartbeats 4000000 in
theorem M_88 : xMeth PX 88 (T_88, 1, [(822, 3)]) := ⟨⟨"CapitalCaseModel", "<init>", "()V"⟩, prog_14_method_2_code, none, rfl, by decide, fun G => T_88_ok G, xrt_ok (xR_c (Or.inr (Or.inr (Or.inl ⟨rfl, d88_822, rfl⟩))) (xR_n))⟩
