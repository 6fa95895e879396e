theorem em230_0 : decode prog_14_method_37_code 0 = .ok (.aload_n 0, 1) := by decide +kernel
theorem em230_1 : decode prog_14_method_37_code 1 = .ok (.iconst 0, 1) := by decide +kernel
theorem em230_2 : decode prog_14_method_37_code 2 = .ok (.putfield 307, 3) := by decide +kernel
theorem em230_5 : decode prog_14_method_37_code 5 = .ok (.aload_n 0, 1) := by decide +kernel
theorem em230_6 : decode prog_14_method_37_code 6 = .ok (.getfield 227, 3) := by decide +kernel
theorem em230_9 : decode prog_14_method_37_code 9 = .ok (.istore_n 1, 1) := by decide +kernel
theorem em230_10 : decode prog_14_method_37_code 10 = .ok (.iconst 1, 1) := by decide +kernel
theorem em230_11 : decode prog_14_method_37_code 11 = .ok (.istore_n 2, 1) := by decide +kernel
theorem em230_12 : decode prog_14_method_37_code 12 = .ok (.iload_n 2, 1) := by decide +kernel
theorem em230_13 : decode prog_14_method_37_code 13 = .ok (.ifCond .eq 259, 3) := by decide +kernel
theorem em230_16 : decode prog_14_method_37_code 16 = .ok (.aload_n 0, 1) := by decide +kernel
theorem em230_17 : decode prog_14_method_37_code 17 = .ok (.getfield 200, 3) := by decide +kernel
theorem em230_20 : decode prog_14_method_37_code 20 = .ok (.ifCond .ne 252, 3) := by decide +kernel
theorem em230_23 : decode prog_14_method_37_code 23 = .ok (.aload_n 0, 1) := by decide +kernel
theorem em230_24 : decode prog_14_method_37_code 24 = .ok (.bipush 6, 2) := by decide +kernel
theorem em230_26 : decode prog_14_method_37_code 26 = .ok (.invokevirtual 218, 3) := by decide +kernel
theorem em230_29 : decode prog_14_method_37_code 29 = .ok (.ifCond .eq 55, 3) := by decide +kernel
theorem em230_32 : decode prog_14_method_37_code 32 = .ok (.aload_n 0, 1) := by decide +kernel
theorem em230_33 : decode prog_14_method_37_code 33 = .ok (.getfield 227, 3) := by decide +kernel
theorem em230_36 : decode prog_14_method_37_code 36 = .ok (.bipush 6, 2) := by decide +kernel
theorem em230_38 : decode prog_14_method_37_code 38 = .ok (.if_icmp .ne 8, 3) := by decide +kernel
theorem em230_41 : decode prog_14_method_37_code 41 = .ok (.aload_n 0, 1) := by decide +kernel
theorem em230_42 : decode prog_14_method_37_code 42 = .ok (.iconst 2, 1) := by decide +kernel
theorem em230_43 : decode prog_14_method_37_code 43 = .ok (.invokevirtual 215, 3) := by decide +kernel
theorem em230_46 : decode prog_14_method_37_code 46 = .ok (.aload_n 0, 1) := by decide +kernel
theorem em230_47 : decode prog_14_method_37_code 47 = .ok (.dup, 1) := by decide +kernel
theorem em230_48 : decode prog_14_method_37_code 48 = .ok (.getfield 227, 3) := by decide +kernel
theorem em230_51 : decode prog_14_method_37_code 51 = .ok (.iconst 1, 1) := by decide +kernel
theorem em230_52 : decode prog_14_method_37_code 52 = .ok (.iadd, 1) := by decide +kernel
theorem em230_53 : decode prog_14_method_37_code 53 = .ok (.putfield 227, 3) := by decide +kernel
theorem em230_56 : decode prog_14_method_37_code 56 = .ok (.aload_n 0, 1) := by decide +kernel
theorem em230_57 : decode prog_14_method_37_code 57 = .ok (.invokevirtual 221, 3) := by decide +kernel
theorem em230_60 : decode prog_14_method_37_code 60 = .ok (.aload_n 0, 1) := by decide +kernel
theorem em230_61 : decode prog_14_method_37_code 61 = .ok (.getfield 104, 3) := by decide +kernel
theorem em230_64 : decode prog_14_method_37_code 64 = .ok (.aload_n 0, 1) := by decide +kernel
theorem em230_65 : decode prog_14_method_37_code 65 = .ok (.getfield 307, 3) := by decide +kernel
theorem em230_68 : decode prog_14_method_37_code 68 = .ok (.bipush 6, 2) := by decide +kernel
theorem em230_70 : decode prog_14_method_37_code 70 = .ok (.iastore, 1) := by decide +kernel
theorem em230_71 : decode prog_14_method_37_code 71 = .ok (.aload_n 0, 1) := by decide +kernel
theorem em230_72 : decode prog_14_method_37_code 72 = .ok (.dup, 1) := by decide +kernel
theorem em230_73 : decode prog_14_method_37_code 73 = .ok (.getfield 307, 3) := by decide +kernel
theorem em230_76 : decode prog_14_method_37_code 76 = .ok (.iconst 1, 1) := by decide +kernel
theorem em230_77 : decode prog_14_method_37_code 77 = .ok (.iadd, 1) := by decide +kernel
theorem em230_78 : decode prog_14_method_37_code 78 = .ok (.putfield 307, 3) := by decide +kernel
theorem em230_81 : decode prog_14_method_37_code 81 = .ok (.goto (-58), 3) := by decide +kernel
theorem em230_84 : decode prog_14_method_37_code 84 = .ok (.aload_n 0, 1) := by decide +kernel
theorem em230_85 : decode prog_14_method_37_code 85 = .ok (.invokevirtual 313, 3) := by decide +kernel
theorem em230_88 : decode prog_14_method_37_code 88 = .ok (.aload_n 0, 1) := by decide +kernel
theorem em230_89 : decode prog_14_method_37_code 89 = .ok (.getfield 200, 3) := by decide +kernel
theorem em230_92 : decode prog_14_method_37_code 92 = .ok (.ifCond .le 4, 3) := by decide +kernel
theorem em230_95 : decode prog_14_method_37_code 95 = .ok (.return_, 1) := by decide +kernel
theorem em230_96 : decode prog_14_method_37_code 96 = .ok (.aload_n 0, 1) := by decide +kernel
theorem em230_97 : decode prog_14_method_37_code 97 = .ok (.bipush 7, 2) := by decide +kernel
theorem em230_99 : decode prog_14_method_37_code 99 = .ok (.invokevirtual 218, 3) := by decide +kernel
theorem em230_102 : decode prog_14_method_37_code 102 = .ok (.ifCond .eq 43, 3) := by decide +kernel
theorem em230_105 : decode prog_14_method_37_code 105 = .ok (.aload_n 0, 1) := by decide +kernel
theorem em230_106 : decode prog_14_method_37_code 106 = .ok (.getfield 227, 3) := by decide +kernel
theorem em230_109 : decode prog_14_method_37_code 109 = .ok (.iload_n 1, 1) := by decide +kernel
theorem em230_110 : decode prog_14_method_37_code 110 = .ok (.if_icmp .le 35, 3) := by decide +kernel
theorem em230_113 : decode prog_14_method_37_code 113 = .ok (.aload_n 0, 1) := by decide +kernel
theorem em230_114 : decode prog_14_method_37_code 114 = .ok (.iconst 0, 1) := by decide +kernel
theorem em230_115 : decode prog_14_method_37_code 115 = .ok (.invokevirtual 316, 3) := by decide +kernel
theorem em230_118 : decode prog_14_method_37_code 118 = .ok (.aload_n 0, 1) := by decide +kernel
theorem em230_119 : decode prog_14_method_37_code 119 = .ok (.dup, 1) := by decide +kernel
theorem em230_120 : decode prog_14_method_37_code 120 = .ok (.getfield 307, 3) := by decide +kernel
theorem em230_123 : decode prog_14_method_37_code 123 = .ok (.iconst 1, 1) := by decide +kernel
theorem em230_124 : decode prog_14_method_37_code 124 = .ok (.isub, 1) := by decide +kernel
theorem em230_125 : decode prog_14_method_37_code 125 = .ok (.putfield 307, 3) := by decide +kernel
theorem em230_128 : decode prog_14_method_37_code 128 = .ok (.aload_n 0, 1) := by decide +kernel
theorem em230_129 : decode prog_14_method_37_code 129 = .ok (.dup, 1) := by decide +kernel
theorem em230_130 : decode prog_14_method_37_code 130 = .ok (.getfield 227, 3) := by decide +kernel
theorem em230_133 : decode prog_14_method_37_code 133 = .ok (.iconst 1, 1) := by decide +kernel
theorem em230_134 : decode prog_14_method_37_code 134 = .ok (.isub, 1) := by decide +kernel
theorem em230_135 : decode prog_14_method_37_code 135 = .ok (.putfield 227, 3) := by decide +kernel
theorem em230_138 : decode prog_14_method_37_code 138 = .ok (.aload_n 0, 1) := by decide +kernel
theorem em230_139 : decode prog_14_method_37_code 139 = .ok (.invokevirtual 221, 3) := by decide +kernel
theorem em230_142 : decode prog_14_method_37_code 142 = .ok (.goto (-46), 3) := by decide +kernel
theorem em230_145 : decode prog_14_method_37_code 145 = .ok (.aload_n 0, 1) := by decide +kernel
theorem em230_146 : decode prog_14_method_37_code 146 = .ok (.bipush 8, 2) := by decide +kernel
theorem em230_148 : decode prog_14_method_37_code 148 = .ok (.invokevirtual 218, 3) := by decide +kernel
theorem em230_151 : decode prog_14_method_37_code 151 = .ok (.ifCond .ne 30, 3) := by decide +kernel
theorem em230_154 : decode prog_14_method_37_code 154 = .ok (.aload_n 0, 1) := by decide +kernel
theorem em230_155 : decode prog_14_method_37_code 155 = .ok (.bipush 9, 2) := by decide +kernel
theorem em230_157 : decode prog_14_method_37_code 157 = .ok (.invokevirtual 218, 3) := by decide +kernel
theorem em230_160 : decode prog_14_method_37_code 160 = .ok (.ifCond .ne 21, 3) := by decide +kernel
theorem em230_163 : decode prog_14_method_37_code 163 = .ok (.aload_n 0, 1) := by decide +kernel
theorem em230_164 : decode prog_14_method_37_code 164 = .ok (.bipush 10, 2) := by decide +kernel
theorem em230_166 : decode prog_14_method_37_code 166 = .ok (.invokevirtual 218, 3) := by decide +kernel
theorem em230_169 : decode prog_14_method_37_code 169 = .ok (.ifCond .ne 12, 3) := by decide +kernel
theorem em230_172 : decode prog_14_method_37_code 172 = .ok (.aload_n 0, 1) := by decide +kernel
theorem em230_173 : decode prog_14_method_37_code 173 = .ok (.bipush 15, 2) := by decide +kernel
theorem em230_175 : decode prog_14_method_37_code 175 = .ok (.invokevirtual 218, 3) := by decide +kernel
theorem em230_178 : decode prog_14_method_37_code 178 = .ok (.ifCond .eq 7, 3) := by decide +kernel
theorem em230_181 : decode prog_14_method_37_code 181 = .ok (.iconst 1, 1) := by decide +kernel
theorem em230_182 : decode prog_14_method_37_code 182 = .ok (.goto 4, 3) := by decide +kernel
theorem em230_185 : decode prog_14_method_37_code 185 = .ok (.iconst 0, 1) := by decide +kernel
theorem em230_186 : decode prog_14_method_37_code 186 = .ok (.istore_n 2, 1) := by decide +kernel
theorem em230_187 : decode prog_14_method_37_code 187 = .ok (.iload_n 2, 1) := by decide +kernel
theorem em230_188 : decode prog_14_method_37_code 188 = .ok (.ifCond .ne 22, 3) := by decide +kernel
theorem em230_191 : decode prog_14_method_37_code 191 = .ok (.aload_n 0, 1) := by decide +kernel
theorem em230_192 : decode prog_14_method_37_code 192 = .ok (.getfield 227, 3) := by decide +kernel
theorem em230_195 : decode prog_14_method_37_code 195 = .ok (.iload_n 1, 1) := by decide +kernel
theorem em230_196 : decode prog_14_method_37_code 196 = .ok (.if_icmp .le 8, 3) := by decide +kernel
theorem em230_199 : decode prog_14_method_37_code 199 = .ok (.aload_n 0, 1) := by decide +kernel
theorem em230_200 : decode prog_14_method_37_code 200 = .ok (.iconst 1, 1) := by decide +kernel
theorem em230_201 : decode prog_14_method_37_code 201 = .ok (.invokevirtual 215, 3) := by decide +kernel
theorem em230_204 : decode prog_14_method_37_code 204 = .ok (.aload_n 0, 1) := by decide +kernel
theorem em230_205 : decode prog_14_method_37_code 205 = .ok (.iconst 0, 1) := by decide +kernel
theorem em230_206 : decode prog_14_method_37_code 206 = .ok (.invokevirtual 316, 3) := by decide +kernel
theorem em230_209 : decode prog_14_method_37_code 209 = .ok (.return_, 1) := by decide +kernel
theorem em230_210 : decode prog_14_method_37_code 210 = .ok (.aload_n 0, 1) := by decide +kernel
theorem em230_211 : decode prog_14_method_37_code 211 = .ok (.aload_n 0, 1) := by decide +kernel
theorem em230_212 : decode prog_14_method_37_code 212 = .ok (.bipush 10, 2) := by decide +kernel
theorem em230_214 : decode prog_14_method_37_code 214 = .ok (.invokevirtual 218, 3) := by decide +kernel
theorem em230_217 : decode prog_14_method_37_code 217 = .ok (.ifCond .ne 12, 3) := by decide +kernel
theorem em230_220 : decode prog_14_method_37_code 220 = .ok (.aload_n 0, 1) := by decide +kernel
theorem em230_221 : decode prog_14_method_37_code 221 = .ok (.bipush 15, 2) := by decide +kernel
theorem em230_223 : decode prog_14_method_37_code 223 = .ok (.invokevirtual 218, 3) := by decide +kernel
theorem em230_226 : decode prog_14_method_37_code 226 = .ok (.ifCond .eq 7, 3) := by decide +kernel
theorem em230_229 : decode prog_14_method_37_code 229 = .ok (.iconst 1, 1) := by decide +kernel
theorem em230_230 : decode prog_14_method_37_code 230 = .ok (.goto 4, 3) := by decide +kernel
theorem em230_233 : decode prog_14_method_37_code 233 = .ok (.iconst 0, 1) := by decide +kernel
theorem em230_234 : decode prog_14_method_37_code 234 = .ok (.invokevirtual 316, 3) := by decide +kernel
theorem em230_237 : decode prog_14_method_37_code 237 = .ok (.aload_n 0, 1) := by decide +kernel
theorem em230_238 : decode prog_14_method_37_code 238 = .ok (.getfield 104, 3) := by decide +kernel
theorem em230_241 : decode prog_14_method_37_code 241 = .ok (.aload_n 0, 1) := by decide +kernel
theorem em230_242 : decode prog_14_method_37_code 242 = .ok (.getfield 307, 3) := by decide +kernel
theorem em230_245 : decode prog_14_method_37_code 245 = .ok (.aload_n 0, 1) := by decide +kernel
theorem em230_246 : decode prog_14_method_37_code 246 = .ok (.getfield 20, 3) := by decide +kernel
theorem em230_249 : decode prog_14_method_37_code 249 = .ok (.aload_n 0, 1) := by decide +kernel
theorem em230_250 : decode prog_14_method_37_code 250 = .ok (.getfield 203, 3) := by decide +kernel
theorem em230_253 : decode prog_14_method_37_code 253 = .ok (.iaload, 1) := by decide +kernel
theorem em230_254 : decode prog_14_method_37_code 254 = .ok (.iastore, 1) := by decide +kernel
theorem em230_255 : decode prog_14_method_37_code 255 = .ok (.aload_n 0, 1) := by decide +kernel
theorem em230_256 : decode prog_14_method_37_code 256 = .ok (.dup, 1) := by decide +kernel
theorem em230_257 : decode prog_14_method_37_code 257 = .ok (.getfield 307, 3) := by decide +kernel
theorem em230_260 : decode prog_14_method_37_code 260 = .ok (.iconst 1, 1) := by decide +kernel
theorem em230_261 : decode prog_14_method_37_code 261 = .ok (.iadd, 1) := by decide +kernel
theorem em230_262 : decode prog_14_method_37_code 262 = .ok (.putfield 307, 3) := by decide +kernel
theorem em230_265 : decode prog_14_method_37_code 265 = .ok (.aload_n 0, 1) := by decide +kernel
theorem em230_266 : decode prog_14_method_37_code 266 = .ok (.invokevirtual 221, 3) := by decide +kernel
theorem em230_269 : decode prog_14_method_37_code 269 = .ok (.goto (-257), 3) := by decide +kernel
theorem em230_272 : decode prog_14_method_37_code 272 = .ok (.return_, 1) := by decide +kernel
def xpG (d : Nat) (I : zI) (n : Nat) : Prop := (∀ (IJ : zI) (bs mo : Int32), bs.toInt = 0 → xpA I IJ 0 → mo.toInt = 1 → xpmu IJ + 5 = n → zAt zG0 PZ zbd zpre zpost (d, (zbd 262).1, (zbd 262).2) prog_14_method_37_code "CapitalCaseModel" (zRet prog_14_method_37_code none (zbd 262) (hpost 262 [.inr (.inl (some 75))] I)) 12 [some (.inr (.inl (some 75))), some (.inl bs), some (.inl mo)] [] IJ (0, 0)) ∧ (∀ (IJ : zI) (bs mo : Int32), bs.toInt = 0 → xpA I IJ 0 → mo.toInt = 1 → xpmu IJ + 4 = n → zAt zG0 PZ zbd zpre zpost (d, (zbd 262).1, (zbd 262).2) prog_14_method_37_code "CapitalCaseModel" (zRet prog_14_method_37_code none (zbd 262) (hpost 262 [.inr (.inl (some 75))] I)) 23 [some (.inr (.inl (some 75))), some (.inl bs), some (.inl mo)] [] IJ (0, 0)) ∧ (∀ (IJ : zI) (bs mo : Int32), bs.toInt = 0 → xpA I IJ 1 → zf I 12 + 1 ≤ zf IJ 12 → mo.toInt = 1 → xpmu IJ + 3 = n → zAt zG0 PZ zbd zpre zpost (d, (zbd 262).1, (zbd 262).2) prog_14_method_37_code "CapitalCaseModel" (zRet prog_14_method_37_code none (zbd 262) (hpost 262 [.inr (.inl (some 75))] I)) 96 [some (.inr (.inl (some 75))), some (.inl bs), some (.inl mo)] [] IJ (0, 0)) ∧ (∀ (IJ : zI) (bs mo : Int32), bs.toInt = 0 → xpA I IJ 1 → zf I 12 + 1 ≤ zf IJ 12 → mo.toInt = 1 → xpmu IJ + 2 = n → zAt zG0 PZ zbd zpre zpost (d, (zbd 262).1, (zbd 262).2) prog_14_method_37_code "CapitalCaseModel" (zRet prog_14_method_37_code none (zbd 262) (hpost 262 [.inr (.inl (some 75))] I)) 145 [some (.inr (.inl (some 75))), some (.inl bs), some (.inl mo)] [] IJ (0, 0)) ∧ (∀ (IJ : zI) (bs mo : Int32), bs.toInt = 0 → xpA I IJ 1 → zf I 12 + 1 ≤ zf IJ 12 → xpmu IJ + 1 = n → zAt zG0 PZ zbd zpre zpost (d, (zbd 262).1, (zbd 262).2) prog_14_method_37_code "CapitalCaseModel" (zRet prog_14_method_37_code none (zbd 262) (hpost 262 [.inr (.inl (some 75))] I)) 191 [some (.inr (.inl (some 75))), some (.inl bs), some (.inl mo)] [] IJ (0, 0)) ∧ (∀ (IJ : zI) (bs mo : Int32), bs.toInt = 0 → xpA I IJ 1 → zf I 12 + 1 ≤ zf IJ 12 → mo.toInt = 1 → zf IJ 13 = 0 → (zv IJ 78 (zf IJ 12) = 8 ∨ zv IJ 78 (zf IJ 12) = 9 ∨ zv IJ 78 (zf IJ 12) = 10 ∨ zv IJ 78 (zf IJ 12) = 15) → xpmu IJ + 0 = n → zAt zG0 PZ zbd zpre zpost (d, (zbd 262).1, (zbd 262).2) prog_14_method_37_code "CapitalCaseModel" (zRet prog_14_method_37_code none (zbd 262) (hpost 262 [.inr (.inl (some 75))] I)) 210 [some (.inr (.inl (some 75))), some (.inl bs), some (.inl mo)] [] IJ (0, 0))
set_option maxRecDepth 10000 in
set_option maxHeartbeats 4000000 in
theorem xp_12 {d n : Nat} {I : zI} (hc : zCalls zG0 PZ zbd zpre zpost d) (hd : 5 ≤ d + 1) (h12a : 0 ≤ zf I 12) (h12b : zf I 12 ≤ 400) (h13 : zf I 13 = 0) (h14 : zf I 14 = 0) (h23 : zf I 23 = 0 ∨ zf I 23 = 1) (h17a : 420 * zf I 23 ≤ zf I 17) (h17b : zf I 17 ≤ 420 * zf I 23 + zf I 12) (ih : ∀ m, m < n → xpG d I m) : (∀ (IJ : zI) (bs mo : Int32), bs.toInt = 0 → xpA I IJ 0 → mo.toInt = 1 → xpmu IJ + 5 = n → zAt zG0 PZ zbd zpre zpost (d, (zbd 262).1, (zbd 262).2) prog_14_method_37_code "CapitalCaseModel" (zRet prog_14_method_37_code none (zbd 262) (hpost 262 [.inr (.inl (some 75))] I)) 12 [some (.inr (.inl (some 75))), some (.inl bs), some (.inl mo)] [] IJ (0, 0)) := by
  intro IJ bs mo hbs hAJ hmo hn
  obtain ⟨⟨hb18a, hb18b⟩, ⟨hb14a, hb14b⟩, ⟨hb12a, hb12b⟩, hb13, hb17, hbR, hbF⟩ := xpA_b hAJ
  have hEJ := hAJ.1
  refine hA_iload (zs_iload_n em230_12) rfl ?_
  refine hA_if (zs_ifeq em230_13 (t := 272) (by decide)) (fun (c13 : mo.toInt = 0) => ?_) (fun (c13 : ¬ mo.toInt = 0) => ?_)
  · exfalso
    omega
  · refine hA_aload (zs_aload_n em230_16) rfl ?_
    refine hA_getf0 (id := 13) (zs_getf (T := TX12) (M := 70) (ci := 12) (j := 27) em230_17 rfl inX12 (by decide) wd_1294 ((congrFun xo_12 200).trans rfl)) ⟨_, rfl, rfl⟩ (fun z17 hz17 => ?_)
    refine hA_if (zs_ifne em230_20 (t := 272) (by decide)) (fun (c20 : ¬ z17.toInt = 0) => ?_) (fun (c20 : ¬ ¬ z17.toInt = 0) => ?_)
    · refine hA_return ⟨rfl, em230_272⟩ ⟨Nat.le_refl _, Nat.le_refl _⟩ ?_
      intro he
      cases he
      refine ⟨rfl, hEJ, fun _ => by omega, fun h => ?_, fun h => absurd h13 h⟩
      exfalso; omega
    · exact (ih _ (by omega)).2.1 IJ bs mo hbs hAJ hmo rfl
set_option maxRecDepth 10000 in
set_option maxHeartbeats 4000000 in
theorem xp_23 {d n : Nat} {I : zI} (hc : zCalls zG0 PZ zbd zpre zpost d) (hd : 5 ≤ d + 1) (h12a : 0 ≤ zf I 12) (h12b : zf I 12 ≤ 400) (h13 : zf I 13 = 0) (h14 : zf I 14 = 0) (h23 : zf I 23 = 0 ∨ zf I 23 = 1) (h17a : 420 * zf I 23 ≤ zf I 17) (h17b : zf I 17 ≤ 420 * zf I 23 + zf I 12) (ih : ∀ m, m < n → xpG d I m) : (∀ (IJ : zI) (bs mo : Int32), bs.toInt = 0 → xpA I IJ 0 → mo.toInt = 1 → xpmu IJ + 4 = n → zAt zG0 PZ zbd zpre zpost (d, (zbd 262).1, (zbd 262).2) prog_14_method_37_code "CapitalCaseModel" (zRet prog_14_method_37_code none (zbd 262) (hpost 262 [.inr (.inl (some 75))] I)) 23 [some (.inr (.inl (some 75))), some (.inl bs), some (.inl mo)] [] IJ (0, 0)) := by
  intro IJ bs mo hbs hAJ hmo hn
  obtain ⟨⟨hb18a, hb18b⟩, ⟨hb14a, hb14b⟩, ⟨hb12a, hb12b⟩, hb13, hb17, hbR, hbF⟩ := xpA_b hAJ
  have hEJ := hAJ.1
  refine hA_aload (zs_aload_n em230_23) rfl ?_
  refine hA_const (k := 6) (zs_bipush (v := 6) em230_24 (by decide +kernel)) (by decide +kernel) (fun z24 hz24 => ?_)
  refine hA_callV (as := [.inl z24]) (rest := []) (B' := (0, 0)) (zs_invV (T := TX12) em230_26 zl_285 rfl wd_1531 wd_1533 wd_52 ((congrFun xo_12 218).trans rfl) xm_149) rfl ⟨_, rfl⟩ (Nat.le_of_ble_eq_true rfl) rfl ⟨Nat.zero_le _, Nat.zero_le _⟩ (hpre_of rfl (show hpr_285 d [.inr (.inl (some 75)), .inl z24] IJ from ⟨by show 1 ≤ d; omega, z24, rfl, ⟨by omega, by omega⟩⟩)) (fun r26 I26 hp26 => ?_)
  replace hp26 : hpo_285 _ _ _ _ := hpost_of rfl hp26
  obtain ⟨z26, rfl, rfl, ⟨hz26, hz26f, hz26k⟩ | ⟨hz26, hz26k⟩⟩ := hp26 z24 rfl
  · refine hA_if (zs_ifeq em230_29 (t := 84) (by decide)) (fun (c29 : z26.toInt = 0) => ?_) (fun (c29 : ¬ z26.toInt = 0) => ?_)
    · exfalso
      omega
    · refine hA_aload (zs_aload_n em230_32) rfl ?_
      refine hA_getf0 (id := 14) (zs_getf (T := TX12) (M := 70) (ci := 12) (j := 26) em230_33 rfl inX12 (by decide) wd_1293 ((congrFun xo_12 227).trans rfl)) ⟨_, rfl, rfl⟩ (fun z33 hz33 => ?_)
      refine hA_const (k := 6) (zs_bipush (v := 6) em230_36 (by decide +kernel)) (by decide +kernel) (fun z36 hz36 => ?_)
      refine hA_icmp (zs_icmpne em230_38 (t := 46) (by decide)) (fun (c38 : ¬ z33.toInt = z36.toInt) => ?_) (fun (c38 : ¬ ¬ z33.toInt = z36.toInt) => ?_)
      · refine hA_aload (zs_aload_n em230_46) rfl ?_
        refine hA_dup (zs_dup em230_47) rfl ?_
        refine hA_getf0 (id := 14) (zs_getf (T := TX12) (M := 70) (ci := 12) (j := 26) em230_48 rfl inX12 (by decide) wd_1293 ((congrFun xo_12 227).trans rfl)) ⟨_, rfl, rfl⟩ (fun z48 hz48 => ?_)
        refine hA_const (k := 1) (zs_iconst (v := 1) em230_51 (by decide +kernel)) (by decide +kernel) (fun z51 hz51 => ?_)
        refine hA_add (zs_iadd em230_52) (by omega) (by omega) (fun z52 hz52 => ?_)
        refine hA_puti0 (id := 14) (zs_puti zInj0 (T := TX12) (M := 70) (ty := tyX12) (ci := 12) (j := 26) (kd := 0) em230_53 rfl inX12 tyX12_ok nmX12 (by decide) wd_1293 (Or.inl ⟨rfl, rfl⟩) rfl ((congrFun xo_12 227).trans rfl)) ⟨_, rfl, rfl⟩ (fun h => by cases h) ?_
        refine hA_aload (zs_aload_n em230_56) rfl ?_
        refine hA_callV (as := []) (rest := []) (B' := (0, 0)) (zs_invV (T := TX12) em230_57 zl_151 rfl wd_1547 wd_1549 wd_56 ((congrFun xo_12 221).trans rfl) xm_144) rfl ⟨_, rfl⟩ (Nat.le_of_ble_eq_true rfl) rfl ⟨Nat.zero_le _, Nat.zero_le _⟩ (zpre_of zh_151 ⟨(by show 2 ≤ d; omega), ⟨_, _, rfl, rfl, rfl⟩, (hF_cons (lo := 0) (hi := 400) ⟨by rw [zf_ne (by decide)]; omega, by rw [zf_ne (by decide)]; omega⟩ (hF_cons (lo := 0) (hi := 2147483647) ⟨by rw [zf_ne (by decide)]; omega, by rw [zf_ne (by decide)]; exact an_hi _⟩ hF_nil)), fun h => by cases h⟩) (fun r57 I57 hp57 => ?_)
        replace hp57 := zpost_of zh_151 hp57
        rcases zq_151 hp57 with ⟨v57_12, v57_13, rfl, rfl, hv57_12e, hv57_12l, hv57_12h, hv57_13e, hv57_13l, hv57_13h⟩ | ⟨v57_12', v57_13', rfl, rfl, hv57_12'e, hv57_12'l, hv57_12'h, hv57_13'l, hv57_13'h⟩ | ⟨v57_12'', rfl, rfl, hv57_12''e, hv57_12''l, hv57_12''h⟩
        · rw [zf_ne (by decide)] at hv57_12e
          rw [zf_ne (by decide)] at hv57_13e
          refine hA_aload (zs_aload_n em230_60) rfl ?_
          refine hA_getf2 (r := 104) (zs_getf (T := TX12) (M := 70) (ci := 12) (j := 54) em230_61 rfl inX12 (by decide) wd_1326 ((congrFun xo_12 104).trans rfl)) ⟨_, rfl, rfl⟩ ?_
          refine hA_aload (zs_aload_n em230_64) rfl ?_
          refine hA_getf0 (id := 18) (zs_getf (T := TX12) (M := 70) (ci := 12) (j := 55) em230_65 rfl inX12 (by decide) wd_1327 ((congrFun xo_12 307).trans rfl)) ⟨_, rfl, rfl⟩ (fun z65 hz65 => ?_)
          rw [zf_ne (by decide), zf_ne (by decide), zf_ne (by decide)] at hz65
          refine hA_const (k := 6) (zs_bipush (v := 6) em230_68 (by decide +kernel)) (by decide +kernel) (fun z68 hz68 => ?_)
          refine hA_iast (kd := 104) (len := 64) (zs_iast zInj0 em230_70) ⟨rfl, rfl, rfl⟩ (by omega) (by show _ < ((64 : Nat) : Int); omega) ?_
          refine hA_aload (zs_aload_n em230_71) rfl ?_
          refine hA_dup (zs_dup em230_72) rfl ?_
          refine hA_getf0 (id := 18) (zs_getf (T := TX12) (M := 70) (ci := 12) (j := 55) em230_73 rfl inX12 (by decide) wd_1327 ((congrFun xo_12 307).trans rfl)) ⟨_, rfl, rfl⟩ (fun z73 hz73 => ?_)
          rw [zf_arr _ _ _ _ _ (by decide), zf_ne (by decide), zf_ne (by decide), zf_ne (by decide)] at hz73
          refine hA_const (k := 1) (zs_iconst (v := 1) em230_76 (by decide +kernel)) (by decide +kernel) (fun z76 hz76 => ?_)
          refine hA_add (zs_iadd em230_77) (by omega) (by omega) (fun z77 hz77 => ?_)
          refine hA_puti0 (id := 18) (zs_puti zInj0 (T := TX12) (M := 70) (ty := tyX12) (ci := 12) (j := 55) (kd := 0) em230_78 rfl inX12 tyX12_ok nmX12 (by decide) wd_1327 (Or.inl ⟨rfl, rfl⟩) rfl ((congrFun xo_12 307).trans rfl)) ⟨_, rfl, rfl⟩ (fun h => by cases h) ?_
          refine hA_goto (zs_goto em230_81 (t := 23) (by decide)) ?_
          have hmu := xpmu_d (J := IJ) (J' := (zupd (zupd (zupd (zupd (zupd IJ 14 z52) 12 v57_12) 13 v57_13) (zid 104 z65.toInt.toNat) z68) 18 z77)) (by rw [zf_ne (by decide), zf_arr _ _ _ _ _ (by decide), zf_ne (by decide), zf_same]; omega) (by rw [zf_ne (by decide), zf_arr _ _ _ _ _ (by decide), zf_ne (by decide), zf_same]; omega) (by omega) (fun h => by rw [zf_ne (by decide), zf_arr _ _ _ _ _ (by decide), zf_same] at h; rw [zf_ne (by decide), zf_arr _ _ _ _ _ (by decide), zf_ne (by decide), zf_same]; omega)
          exact (ih _ (by omega)).2.1 _ bs mo hbs (xpA_open hAJ (by omega) (eFr_o (a := 18) (eFr_w (by omega) (eFr_f (eFr_t (eFr_o (a := 14) hEJ (by omega)) (by rw [zf_ne (by decide)]; omega) (by omega)) (by omega) (by rw [zf_ne (by decide), zf_ne (by decide)]; omega))) (by omega)) (by rw [zf_same]; omega) (by rw [zf_ne (by decide), zf_arr _ _ _ _ _ (by decide), zf_ne (by decide), zf_ne (by decide), zf_same]; omega) (by first | (rw [zf_ne (by decide), zf_arr _ _ _ _ _ (by decide), zf_ne (by decide), zf_ne (by decide), zf_ne (by decide)]; done) | (rw [zf_ne (by decide), zf_arr _ _ _ _ _ (by decide), zf_ne (by decide), zf_ne (by decide), zf_ne (by decide)]; omega)) (by rw [← hz65, zv_fld _ _ _ _ _ (by decide), zv_at]; omega) (fun i hi => by rw [zv_fld _ _ _ _ _ (by decide), zv_ne _ _ _ _ _ _ (by omega) (by omega) (Or.inr ⟨by omega, by omega, by omega⟩), zv_fld _ _ _ _ _ (by decide), zv_fld _ _ _ _ _ (by decide), zv_fld _ _ _ _ _ (by decide)]) (fun i hi => ⟨((zupd_fr (by unfold zid; omega)).trans ((zupd_fr (by unfold zid; omega)).trans ((zupd_fr (by unfold zid; omega)).trans ((zupd_fr (by unfold zid; omega)).trans ((zupd_fr (by unfold zid; omega)).trans rfl))))), ((zupd_fr (by unfold zid; omega)).trans ((zupd_fr (by unfold zid; omega)).trans ((zupd_fr (by unfold zid; omega)).trans ((zupd_fr (by unfold zid; omega)).trans ((zupd_fr (by unfold zid; omega)).trans rfl)))))⟩) (by rw [zf_ne (by decide), zf_arr _ _ _ _ _ (by decide), zf_ne (by decide), zf_same]; omega) (fun h => ⟨by rw [zf_ne (by decide), zf_arr _ _ _ _ _ (by decide), zf_same] at h; rw [zf_ne (by decide), zf_arr _ _ _ _ _ (by decide), zf_ne (by decide), zf_same]; omega, by rw [zf_ne (by decide), zf_arr _ _ _ _ _ (by decide), zf_same] at h; omega⟩) (by omega) (by omega)) hmo rfl
        · rw [zf_ne (by decide)] at hv57_12'e
          refine hA_aload (zs_aload_n em230_60) rfl ?_
          refine hA_getf2 (r := 104) (zs_getf (T := TX12) (M := 70) (ci := 12) (j := 54) em230_61 rfl inX12 (by decide) wd_1326 ((congrFun xo_12 104).trans rfl)) ⟨_, rfl, rfl⟩ ?_
          refine hA_aload (zs_aload_n em230_64) rfl ?_
          refine hA_getf0 (id := 18) (zs_getf (T := TX12) (M := 70) (ci := 12) (j := 55) em230_65 rfl inX12 (by decide) wd_1327 ((congrFun xo_12 307).trans rfl)) ⟨_, rfl, rfl⟩ (fun z65' hz65' => ?_)
          rw [zf_ne (by decide), zf_ne (by decide), zf_ne (by decide)] at hz65'
          refine hA_const (k := 6) (zs_bipush (v := 6) em230_68 (by decide +kernel)) (by decide +kernel) (fun z68' hz68' => ?_)
          refine hA_iast (kd := 104) (len := 64) (zs_iast zInj0 em230_70) ⟨rfl, rfl, rfl⟩ (by omega) (by show _ < ((64 : Nat) : Int); omega) ?_
          refine hA_aload (zs_aload_n em230_71) rfl ?_
          refine hA_dup (zs_dup em230_72) rfl ?_
          refine hA_getf0 (id := 18) (zs_getf (T := TX12) (M := 70) (ci := 12) (j := 55) em230_73 rfl inX12 (by decide) wd_1327 ((congrFun xo_12 307).trans rfl)) ⟨_, rfl, rfl⟩ (fun z73' hz73' => ?_)
          rw [zf_arr _ _ _ _ _ (by decide), zf_ne (by decide), zf_ne (by decide), zf_ne (by decide)] at hz73'
          refine hA_const (k := 1) (zs_iconst (v := 1) em230_76 (by decide +kernel)) (by decide +kernel) (fun z76' hz76' => ?_)
          refine hA_add (zs_iadd em230_77) (by omega) (by omega) (fun z77' hz77' => ?_)
          refine hA_puti0 (id := 18) (zs_puti zInj0 (T := TX12) (M := 70) (ty := tyX12) (ci := 12) (j := 55) (kd := 0) em230_78 rfl inX12 tyX12_ok nmX12 (by decide) wd_1327 (Or.inl ⟨rfl, rfl⟩) rfl ((congrFun xo_12 307).trans rfl)) ⟨_, rfl, rfl⟩ (fun h => by cases h) ?_
          refine hA_goto (zs_goto em230_81 (t := 23) (by decide)) ?_
          have hmu := xpmu_d (J := IJ) (J' := (zupd (zupd (zupd (zupd (zupd IJ 14 z52) 12 v57_12') 13 v57_13') (zid 104 z65'.toInt.toNat) z68') 18 z77')) (by rw [zf_ne (by decide), zf_arr _ _ _ _ _ (by decide), zf_ne (by decide), zf_same]; omega) (by rw [zf_ne (by decide), zf_arr _ _ _ _ _ (by decide), zf_ne (by decide), zf_same]; omega) (by omega) (fun h => by rw [zf_ne (by decide), zf_arr _ _ _ _ _ (by decide), zf_same] at h; rw [zf_ne (by decide), zf_arr _ _ _ _ _ (by decide), zf_ne (by decide), zf_same]; omega)
          exact (ih _ (by omega)).2.1 _ bs mo hbs (xpA_open hAJ (by omega) (eFr_o (a := 18) (eFr_w (by omega) (eFr_f (eFr_t (eFr_o (a := 14) hEJ (by omega)) (by rw [zf_ne (by decide)]; omega) (by omega)) (by omega) (by rw [zf_ne (by decide), zf_ne (by decide)]; omega))) (by omega)) (by rw [zf_same]; omega) (by rw [zf_ne (by decide), zf_arr _ _ _ _ _ (by decide), zf_ne (by decide), zf_ne (by decide), zf_same]; omega) (by first | (rw [zf_ne (by decide), zf_arr _ _ _ _ _ (by decide), zf_ne (by decide), zf_ne (by decide), zf_ne (by decide)]; done) | (rw [zf_ne (by decide), zf_arr _ _ _ _ _ (by decide), zf_ne (by decide), zf_ne (by decide), zf_ne (by decide)]; omega)) (by rw [← hz65', zv_fld _ _ _ _ _ (by decide), zv_at]; omega) (fun i hi => by rw [zv_fld _ _ _ _ _ (by decide), zv_ne _ _ _ _ _ _ (by omega) (by omega) (Or.inr ⟨by omega, by omega, by omega⟩), zv_fld _ _ _ _ _ (by decide), zv_fld _ _ _ _ _ (by decide), zv_fld _ _ _ _ _ (by decide)]) (fun i hi => ⟨((zupd_fr (by unfold zid; omega)).trans ((zupd_fr (by unfold zid; omega)).trans ((zupd_fr (by unfold zid; omega)).trans ((zupd_fr (by unfold zid; omega)).trans ((zupd_fr (by unfold zid; omega)).trans rfl))))), ((zupd_fr (by unfold zid; omega)).trans ((zupd_fr (by unfold zid; omega)).trans ((zupd_fr (by unfold zid; omega)).trans ((zupd_fr (by unfold zid; omega)).trans ((zupd_fr (by unfold zid; omega)).trans rfl)))))⟩) (by rw [zf_ne (by decide), zf_arr _ _ _ _ _ (by decide), zf_ne (by decide), zf_same]; omega) (fun h => ⟨by rw [zf_ne (by decide), zf_arr _ _ _ _ _ (by decide), zf_same] at h; rw [zf_ne (by decide), zf_arr _ _ _ _ _ (by decide), zf_ne (by decide), zf_same]; omega, by rw [zf_ne (by decide), zf_arr _ _ _ _ _ (by decide), zf_same] at h; omega⟩) (by omega) (by omega)) hmo rfl
        · rw [zf_ne (by decide)] at hv57_12''e
          refine hA_aload (zs_aload_n em230_60) rfl ?_
          refine hA_getf2 (r := 104) (zs_getf (T := TX12) (M := 70) (ci := 12) (j := 54) em230_61 rfl inX12 (by decide) wd_1326 ((congrFun xo_12 104).trans rfl)) ⟨_, rfl, rfl⟩ ?_
          refine hA_aload (zs_aload_n em230_64) rfl ?_
          refine hA_getf0 (id := 18) (zs_getf (T := TX12) (M := 70) (ci := 12) (j := 55) em230_65 rfl inX12 (by decide) wd_1327 ((congrFun xo_12 307).trans rfl)) ⟨_, rfl, rfl⟩ (fun z65'' hz65'' => ?_)
          rw [zf_ne (by decide), zf_ne (by decide)] at hz65''
          refine hA_const (k := 6) (zs_bipush (v := 6) em230_68 (by decide +kernel)) (by decide +kernel) (fun z68'' hz68'' => ?_)
          refine hA_iast (kd := 104) (len := 64) (zs_iast zInj0 em230_70) ⟨rfl, rfl, rfl⟩ (by omega) (by show _ < ((64 : Nat) : Int); omega) ?_
          refine hA_aload (zs_aload_n em230_71) rfl ?_
          refine hA_dup (zs_dup em230_72) rfl ?_
          refine hA_getf0 (id := 18) (zs_getf (T := TX12) (M := 70) (ci := 12) (j := 55) em230_73 rfl inX12 (by decide) wd_1327 ((congrFun xo_12 307).trans rfl)) ⟨_, rfl, rfl⟩ (fun z73'' hz73'' => ?_)
          rw [zf_arr _ _ _ _ _ (by decide), zf_ne (by decide), zf_ne (by decide)] at hz73''
          refine hA_const (k := 1) (zs_iconst (v := 1) em230_76 (by decide +kernel)) (by decide +kernel) (fun z76'' hz76'' => ?_)
          refine hA_add (zs_iadd em230_77) (by omega) (by omega) (fun z77'' hz77'' => ?_)
          refine hA_puti0 (id := 18) (zs_puti zInj0 (T := TX12) (M := 70) (ty := tyX12) (ci := 12) (j := 55) (kd := 0) em230_78 rfl inX12 tyX12_ok nmX12 (by decide) wd_1327 (Or.inl ⟨rfl, rfl⟩) rfl ((congrFun xo_12 307).trans rfl)) ⟨_, rfl, rfl⟩ (fun h => by cases h) ?_
          refine hA_goto (zs_goto em230_81 (t := 23) (by decide)) ?_
          have hmu := xpmu_d (J := IJ) (J' := (zupd (zupd (zupd (zupd IJ 14 z52) 12 v57_12'') (zid 104 z65''.toInt.toNat) z68'') 18 z77'')) (by rw [zf_ne (by decide), zf_arr _ _ _ _ _ (by decide), zf_same]; omega) (by rw [zf_ne (by decide), zf_arr _ _ _ _ _ (by decide), zf_same]; omega) (by omega) (fun h => by rw [zf_ne (by decide), zf_arr _ _ _ _ _ (by decide), zf_ne (by decide), zf_ne (by decide)] at h; rw [zf_ne (by decide), zf_arr _ _ _ _ _ (by decide), zf_same]; omega)
          exact (ih _ (by omega)).2.1 _ bs mo hbs (xpA_open hAJ (by omega) (eFr_o (a := 18) (eFr_w (by omega) (eFr_t (eFr_o (a := 14) hEJ (by omega)) (by rw [zf_ne (by decide)]; omega) (by omega))) (by omega)) (by rw [zf_same]; omega) (by rw [zf_ne (by decide), zf_arr _ _ _ _ _ (by decide), zf_ne (by decide), zf_same]; omega) (by first | (rw [zf_ne (by decide), zf_arr _ _ _ _ _ (by decide), zf_ne (by decide), zf_ne (by decide)]; done) | (rw [zf_ne (by decide), zf_arr _ _ _ _ _ (by decide), zf_ne (by decide), zf_ne (by decide)]; omega)) (by rw [← hz65'', zv_fld _ _ _ _ _ (by decide), zv_at]; omega) (fun i hi => by rw [zv_fld _ _ _ _ _ (by decide), zv_ne _ _ _ _ _ _ (by omega) (by omega) (Or.inr ⟨by omega, by omega, by omega⟩), zv_fld _ _ _ _ _ (by decide), zv_fld _ _ _ _ _ (by decide)]) (fun i hi => ⟨((zupd_fr (by unfold zid; omega)).trans ((zupd_fr (by unfold zid; omega)).trans ((zupd_fr (by unfold zid; omega)).trans ((zupd_fr (by unfold zid; omega)).trans rfl)))), ((zupd_fr (by unfold zid; omega)).trans ((zupd_fr (by unfold zid; omega)).trans ((zupd_fr (by unfold zid; omega)).trans ((zupd_fr (by unfold zid; omega)).trans rfl))))⟩) (by rw [zf_ne (by decide), zf_arr _ _ _ _ _ (by decide), zf_same]; omega) (fun h => ⟨by rw [zf_ne (by decide), zf_arr _ _ _ _ _ (by decide), zf_ne (by decide), zf_ne (by decide)] at h; rw [zf_ne (by decide), zf_arr _ _ _ _ _ (by decide), zf_same]; omega, by rw [zf_ne (by decide), zf_arr _ _ _ _ _ (by decide), zf_ne (by decide), zf_ne (by decide)] at h; omega⟩) (by omega) (by omega)) hmo rfl
      · refine hA_aload (zs_aload_n em230_41) rfl ?_
        refine hA_const (k := 2) (zs_iconst (v := 2) em230_42 (by decide +kernel)) (by decide +kernel) (fun z42 hz42 => ?_)
        refine hA_callV (as := [.inl z42]) (rest := []) (B' := (0, 0)) (zs_invV (T := TX12) em230_43 zl_140 rfl wd_1543 wd_1545 wd_55 ((congrFun xo_12 215).trans rfl) xm_133) rfl ⟨_, rfl⟩ (Nat.le_of_ble_eq_true rfl) rfl ⟨Nat.zero_le _, Nat.zero_le _⟩ (zpre_of zh_140 ⟨(by show 1 ≤ d; omega), ⟨_, _, rfl, rfl, ⟨_, _, rfl, ⟨_, rfl, show (1 : Int) ≤ z42.toInt by omega, show z42.toInt ≤ (6 : Int) by omega⟩, rfl⟩⟩, (hF_cons (lo := 0) (hi := 400) ⟨by omega, by omega⟩ (hF_cons (lo := 0) (hi := 2147483647) ⟨by omega, by exact an_hi _⟩ hF_nil)), fun h => by cases h⟩) (fun r43 I43 hp43 => ?_)
        replace hp43 := zpost_of zh_140 hp43
        rcases zq_140 hp43 with ⟨v43_13, rfl, rfl, hv43_13e, hv43_13l, hv43_13h⟩ | ⟨v43_13', rfl, rfl, hv43_13'l, hv43_13'h⟩
        · exfalso
          omega
        · refine hA_aload (zs_aload_n em230_46) rfl ?_
          refine hA_dup (zs_dup em230_47) rfl ?_
          refine hA_getf0 (id := 14) (zs_getf (T := TX12) (M := 70) (ci := 12) (j := 26) em230_48 rfl inX12 (by decide) wd_1293 ((congrFun xo_12 227).trans rfl)) ⟨_, rfl, rfl⟩ (fun z48' hz48' => ?_)
          rw [zf_ne (by decide)] at hz48'
          refine hA_const (k := 1) (zs_iconst (v := 1) em230_51 (by decide +kernel)) (by decide +kernel) (fun z51' hz51' => ?_)
          refine hA_add (zs_iadd em230_52) (by omega) (by omega) (fun z52' hz52' => ?_)
          refine hA_puti0 (id := 14) (zs_puti zInj0 (T := TX12) (M := 70) (ty := tyX12) (ci := 12) (j := 26) (kd := 0) em230_53 rfl inX12 tyX12_ok nmX12 (by decide) wd_1293 (Or.inl ⟨rfl, rfl⟩) rfl ((congrFun xo_12 227).trans rfl)) ⟨_, rfl, rfl⟩ (fun h => by cases h) ?_
          refine hA_aload (zs_aload_n em230_56) rfl ?_
          refine hA_callV (as := []) (rest := []) (B' := (0, 0)) (zs_invV (T := TX12) em230_57 zl_151 rfl wd_1547 wd_1549 wd_56 ((congrFun xo_12 221).trans rfl) xm_144) rfl ⟨_, rfl⟩ (Nat.le_of_ble_eq_true rfl) rfl ⟨Nat.zero_le _, Nat.zero_le _⟩ (zpre_of zh_151 ⟨(by show 2 ≤ d; omega), ⟨_, _, rfl, rfl, rfl⟩, (hF_cons (lo := 0) (hi := 400) ⟨by rw [zf_ne (by decide), zf_ne (by decide)]; omega, by rw [zf_ne (by decide), zf_ne (by decide)]; omega⟩ (hF_cons (lo := 0) (hi := 2147483647) ⟨by rw [zf_ne (by decide), zf_same]; omega, by rw [zf_ne (by decide), zf_same]; exact an_hi _⟩ hF_nil)), fun h => by cases h⟩) (fun r57 I57 hp57 => ?_)
          replace hp57 := zpost_of zh_151 hp57
          rcases zq_151 hp57 with ⟨v57_12_3, v57_13'', rfl, rfl, hv57_12_3e, hv57_12_3l, hv57_12_3h, hv57_13''e, hv57_13''l, hv57_13''h⟩ | ⟨v57_12_4, v57_13_3, rfl, rfl, hv57_12_4e, hv57_12_4l, hv57_12_4h, hv57_13_3l, hv57_13_3h⟩ | ⟨v57_12_5, rfl, rfl, hv57_12_5e, hv57_12_5l, hv57_12_5h⟩
          · rw [zf_ne (by decide), zf_ne (by decide)] at hv57_12_3e
            rw [zf_ne (by decide), zf_same] at hv57_13''e
            refine hA_aload (zs_aload_n em230_60) rfl ?_
            refine hA_getf2 (r := 104) (zs_getf (T := TX12) (M := 70) (ci := 12) (j := 54) em230_61 rfl inX12 (by decide) wd_1326 ((congrFun xo_12 104).trans rfl)) ⟨_, rfl, rfl⟩ ?_
            refine hA_aload (zs_aload_n em230_64) rfl ?_
            refine hA_getf0 (id := 18) (zs_getf (T := TX12) (M := 70) (ci := 12) (j := 55) em230_65 rfl inX12 (by decide) wd_1327 ((congrFun xo_12 307).trans rfl)) ⟨_, rfl, rfl⟩ (fun z65_3 hz65_3 => ?_)
            rw [zf_ne (by decide), zf_ne (by decide), zf_ne (by decide), zf_ne (by decide)] at hz65_3
            refine hA_const (k := 6) (zs_bipush (v := 6) em230_68 (by decide +kernel)) (by decide +kernel) (fun z68_3 hz68_3 => ?_)
            refine hA_iast (kd := 104) (len := 64) (zs_iast zInj0 em230_70) ⟨rfl, rfl, rfl⟩ (by omega) (by show _ < ((64 : Nat) : Int); omega) ?_
            refine hA_aload (zs_aload_n em230_71) rfl ?_
            refine hA_dup (zs_dup em230_72) rfl ?_
            refine hA_getf0 (id := 18) (zs_getf (T := TX12) (M := 70) (ci := 12) (j := 55) em230_73 rfl inX12 (by decide) wd_1327 ((congrFun xo_12 307).trans rfl)) ⟨_, rfl, rfl⟩ (fun z73_3 hz73_3 => ?_)
            rw [zf_arr _ _ _ _ _ (by decide), zf_ne (by decide), zf_ne (by decide), zf_ne (by decide), zf_ne (by decide)] at hz73_3
            refine hA_const (k := 1) (zs_iconst (v := 1) em230_76 (by decide +kernel)) (by decide +kernel) (fun z76_3 hz76_3 => ?_)
            refine hA_add (zs_iadd em230_77) (by omega) (by omega) (fun z77_3 hz77_3 => ?_)
            refine hA_puti0 (id := 18) (zs_puti zInj0 (T := TX12) (M := 70) (ty := tyX12) (ci := 12) (j := 55) (kd := 0) em230_78 rfl inX12 tyX12_ok nmX12 (by decide) wd_1327 (Or.inl ⟨rfl, rfl⟩) rfl ((congrFun xo_12 307).trans rfl)) ⟨_, rfl, rfl⟩ (fun h => by cases h) ?_
            refine hA_goto (zs_goto em230_81 (t := 23) (by decide)) ?_
            have hmu := xpmu_d (J := IJ) (J' := (zupd (zupd (zupd (zupd (zupd (zupd IJ 13 v43_13') 14 z52') 12 v57_12_3) 13 v57_13'') (zid 104 z65_3.toInt.toNat) z68_3) 18 z77_3)) (by rw [zf_ne (by decide), zf_arr _ _ _ _ _ (by decide), zf_ne (by decide), zf_same]; omega) (by rw [zf_ne (by decide), zf_arr _ _ _ _ _ (by decide), zf_ne (by decide), zf_same]; omega) (by omega) (fun h => by rw [zf_ne (by decide), zf_arr _ _ _ _ _ (by decide), zf_same] at h; rw [zf_ne (by decide), zf_arr _ _ _ _ _ (by decide), zf_ne (by decide), zf_same]; omega)
            exact (ih _ (by omega)).2.1 _ bs mo hbs (xpA_open hAJ (by omega) (eFr_o (a := 18) (eFr_w (by omega) (eFr_f (eFr_t (eFr_o (a := 14) (eFr_f hEJ (by omega) (by omega)) (by omega)) (by rw [zf_ne (by decide), zf_ne (by decide)]; omega) (by omega)) (by omega) (by rw [zf_ne (by decide), zf_ne (by decide), zf_same]; omega))) (by omega)) (by rw [zf_same]; omega) (by rw [zf_ne (by decide), zf_arr _ _ _ _ _ (by decide), zf_ne (by decide), zf_ne (by decide), zf_same]; omega) (by first | (rw [zf_ne (by decide), zf_arr _ _ _ _ _ (by decide), zf_ne (by decide), zf_ne (by decide), zf_ne (by decide), zf_ne (by decide)]; done) | (rw [zf_ne (by decide), zf_arr _ _ _ _ _ (by decide), zf_ne (by decide), zf_ne (by decide), zf_ne (by decide), zf_ne (by decide)]; omega)) (by rw [← hz65_3, zv_fld _ _ _ _ _ (by decide), zv_at]; omega) (fun i hi => by rw [zv_fld _ _ _ _ _ (by decide), zv_ne _ _ _ _ _ _ (by omega) (by omega) (Or.inr ⟨by omega, by omega, by omega⟩), zv_fld _ _ _ _ _ (by decide), zv_fld _ _ _ _ _ (by decide), zv_fld _ _ _ _ _ (by decide), zv_fld _ _ _ _ _ (by decide)]) (fun i hi => ⟨((zupd_fr (by unfold zid; omega)).trans ((zupd_fr (by unfold zid; omega)).trans ((zupd_fr (by unfold zid; omega)).trans ((zupd_fr (by unfold zid; omega)).trans ((zupd_fr (by unfold zid; omega)).trans ((zupd_fr (by unfold zid; omega)).trans rfl)))))), ((zupd_fr (by unfold zid; omega)).trans ((zupd_fr (by unfold zid; omega)).trans ((zupd_fr (by unfold zid; omega)).trans ((zupd_fr (by unfold zid; omega)).trans ((zupd_fr (by unfold zid; omega)).trans ((zupd_fr (by unfold zid; omega)).trans rfl))))))⟩) (by rw [zf_ne (by decide), zf_arr _ _ _ _ _ (by decide), zf_ne (by decide), zf_same]; omega) (fun h => ⟨by rw [zf_ne (by decide), zf_arr _ _ _ _ _ (by decide), zf_same] at h; rw [zf_ne (by decide), zf_arr _ _ _ _ _ (by decide), zf_ne (by decide), zf_same]; omega, by rw [zf_ne (by decide), zf_arr _ _ _ _ _ (by decide), zf_same] at h; omega⟩) (by omega) (by omega)) hmo rfl
          · rw [zf_ne (by decide), zf_ne (by decide)] at hv57_12_4e
            refine hA_aload (zs_aload_n em230_60) rfl ?_
            refine hA_getf2 (r := 104) (zs_getf (T := TX12) (M := 70) (ci := 12) (j := 54) em230_61 rfl inX12 (by decide) wd_1326 ((congrFun xo_12 104).trans rfl)) ⟨_, rfl, rfl⟩ ?_
            refine hA_aload (zs_aload_n em230_64) rfl ?_
            refine hA_getf0 (id := 18) (zs_getf (T := TX12) (M := 70) (ci := 12) (j := 55) em230_65 rfl inX12 (by decide) wd_1327 ((congrFun xo_12 307).trans rfl)) ⟨_, rfl, rfl⟩ (fun z65_4 hz65_4 => ?_)
            rw [zf_ne (by decide), zf_ne (by decide), zf_ne (by decide), zf_ne (by decide)] at hz65_4
            refine hA_const (k := 6) (zs_bipush (v := 6) em230_68 (by decide +kernel)) (by decide +kernel) (fun z68_4 hz68_4 => ?_)
            refine hA_iast (kd := 104) (len := 64) (zs_iast zInj0 em230_70) ⟨rfl, rfl, rfl⟩ (by omega) (by show _ < ((64 : Nat) : Int); omega) ?_
            refine hA_aload (zs_aload_n em230_71) rfl ?_
            refine hA_dup (zs_dup em230_72) rfl ?_
            refine hA_getf0 (id := 18) (zs_getf (T := TX12) (M := 70) (ci := 12) (j := 55) em230_73 rfl inX12 (by decide) wd_1327 ((congrFun xo_12 307).trans rfl)) ⟨_, rfl, rfl⟩ (fun z73_4 hz73_4 => ?_)
            rw [zf_arr _ _ _ _ _ (by decide), zf_ne (by decide), zf_ne (by decide), zf_ne (by decide), zf_ne (by decide)] at hz73_4
            refine hA_const (k := 1) (zs_iconst (v := 1) em230_76 (by decide +kernel)) (by decide +kernel) (fun z76_4 hz76_4 => ?_)
            refine hA_add (zs_iadd em230_77) (by omega) (by omega) (fun z77_4 hz77_4 => ?_)
            refine hA_puti0 (id := 18) (zs_puti zInj0 (T := TX12) (M := 70) (ty := tyX12) (ci := 12) (j := 55) (kd := 0) em230_78 rfl inX12 tyX12_ok nmX12 (by decide) wd_1327 (Or.inl ⟨rfl, rfl⟩) rfl ((congrFun xo_12 307).trans rfl)) ⟨_, rfl, rfl⟩ (fun h => by cases h) ?_
            refine hA_goto (zs_goto em230_81 (t := 23) (by decide)) ?_
            have hmu := xpmu_d (J := IJ) (J' := (zupd (zupd (zupd (zupd (zupd (zupd IJ 13 v43_13') 14 z52') 12 v57_12_4) 13 v57_13_3) (zid 104 z65_4.toInt.toNat) z68_4) 18 z77_4)) (by rw [zf_ne (by decide), zf_arr _ _ _ _ _ (by decide), zf_ne (by decide), zf_same]; omega) (by rw [zf_ne (by decide), zf_arr _ _ _ _ _ (by decide), zf_ne (by decide), zf_same]; omega) (by omega) (fun h => by rw [zf_ne (by decide), zf_arr _ _ _ _ _ (by decide), zf_same] at h; rw [zf_ne (by decide), zf_arr _ _ _ _ _ (by decide), zf_ne (by decide), zf_same]; omega)
            exact (ih _ (by omega)).2.1 _ bs mo hbs (xpA_open hAJ (by omega) (eFr_o (a := 18) (eFr_w (by omega) (eFr_f (eFr_t (eFr_o (a := 14) (eFr_f hEJ (by omega) (by omega)) (by omega)) (by rw [zf_ne (by decide), zf_ne (by decide)]; omega) (by omega)) (by omega) (by rw [zf_ne (by decide), zf_ne (by decide), zf_same]; omega))) (by omega)) (by rw [zf_same]; omega) (by rw [zf_ne (by decide), zf_arr _ _ _ _ _ (by decide), zf_ne (by decide), zf_ne (by decide), zf_same]; omega) (by first | (rw [zf_ne (by decide), zf_arr _ _ _ _ _ (by decide), zf_ne (by decide), zf_ne (by decide), zf_ne (by decide), zf_ne (by decide)]; done) | (rw [zf_ne (by decide), zf_arr _ _ _ _ _ (by decide), zf_ne (by decide), zf_ne (by decide), zf_ne (by decide), zf_ne (by decide)]; omega)) (by rw [← hz65_4, zv_fld _ _ _ _ _ (by decide), zv_at]; omega) (fun i hi => by rw [zv_fld _ _ _ _ _ (by decide), zv_ne _ _ _ _ _ _ (by omega) (by omega) (Or.inr ⟨by omega, by omega, by omega⟩), zv_fld _ _ _ _ _ (by decide), zv_fld _ _ _ _ _ (by decide), zv_fld _ _ _ _ _ (by decide), zv_fld _ _ _ _ _ (by decide)]) (fun i hi => ⟨((zupd_fr (by unfold zid; omega)).trans ((zupd_fr (by unfold zid; omega)).trans ((zupd_fr (by unfold zid; omega)).trans ((zupd_fr (by unfold zid; omega)).trans ((zupd_fr (by unfold zid; omega)).trans ((zupd_fr (by unfold zid; omega)).trans rfl)))))), ((zupd_fr (by unfold zid; omega)).trans ((zupd_fr (by unfold zid; omega)).trans ((zupd_fr (by unfold zid; omega)).trans ((zupd_fr (by unfold zid; omega)).trans ((zupd_fr (by unfold zid; omega)).trans ((zupd_fr (by unfold zid; omega)).trans rfl))))))⟩) (by rw [zf_ne (by decide), zf_arr _ _ _ _ _ (by decide), zf_ne (by decide), zf_same]; omega) (fun h => ⟨by rw [zf_ne (by decide), zf_arr _ _ _ _ _ (by decide), zf_same] at h; rw [zf_ne (by decide), zf_arr _ _ _ _ _ (by decide), zf_ne (by decide), zf_same]; omega, by rw [zf_ne (by decide), zf_arr _ _ _ _ _ (by decide), zf_same] at h; omega⟩) (by omega) (by omega)) hmo rfl
          · rw [zf_ne (by decide), zf_ne (by decide)] at hv57_12_5e
            refine hA_aload (zs_aload_n em230_60) rfl ?_
            refine hA_getf2 (r := 104) (zs_getf (T := TX12) (M := 70) (ci := 12) (j := 54) em230_61 rfl inX12 (by decide) wd_1326 ((congrFun xo_12 104).trans rfl)) ⟨_, rfl, rfl⟩ ?_
            refine hA_aload (zs_aload_n em230_64) rfl ?_
            refine hA_getf0 (id := 18) (zs_getf (T := TX12) (M := 70) (ci := 12) (j := 55) em230_65 rfl inX12 (by decide) wd_1327 ((congrFun xo_12 307).trans rfl)) ⟨_, rfl, rfl⟩ (fun z65_5 hz65_5 => ?_)
            rw [zf_ne (by decide), zf_ne (by decide), zf_ne (by decide)] at hz65_5
            refine hA_const (k := 6) (zs_bipush (v := 6) em230_68 (by decide +kernel)) (by decide +kernel) (fun z68_5 hz68_5 => ?_)
            refine hA_iast (kd := 104) (len := 64) (zs_iast zInj0 em230_70) ⟨rfl, rfl, rfl⟩ (by omega) (by show _ < ((64 : Nat) : Int); omega) ?_
            refine hA_aload (zs_aload_n em230_71) rfl ?_
            refine hA_dup (zs_dup em230_72) rfl ?_
            refine hA_getf0 (id := 18) (zs_getf (T := TX12) (M := 70) (ci := 12) (j := 55) em230_73 rfl inX12 (by decide) wd_1327 ((congrFun xo_12 307).trans rfl)) ⟨_, rfl, rfl⟩ (fun z73_5 hz73_5 => ?_)
            rw [zf_arr _ _ _ _ _ (by decide), zf_ne (by decide), zf_ne (by decide), zf_ne (by decide)] at hz73_5
            refine hA_const (k := 1) (zs_iconst (v := 1) em230_76 (by decide +kernel)) (by decide +kernel) (fun z76_5 hz76_5 => ?_)
            refine hA_add (zs_iadd em230_77) (by omega) (by omega) (fun z77_5 hz77_5 => ?_)
            refine hA_puti0 (id := 18) (zs_puti zInj0 (T := TX12) (M := 70) (ty := tyX12) (ci := 12) (j := 55) (kd := 0) em230_78 rfl inX12 tyX12_ok nmX12 (by decide) wd_1327 (Or.inl ⟨rfl, rfl⟩) rfl ((congrFun xo_12 307).trans rfl)) ⟨_, rfl, rfl⟩ (fun h => by cases h) ?_
            refine hA_goto (zs_goto em230_81 (t := 23) (by decide)) ?_
            have hmu := xpmu_d (J := IJ) (J' := (zupd (zupd (zupd (zupd (zupd IJ 13 v43_13') 14 z52') 12 v57_12_5) (zid 104 z65_5.toInt.toNat) z68_5) 18 z77_5)) (by rw [zf_ne (by decide), zf_arr _ _ _ _ _ (by decide), zf_same]; omega) (by rw [zf_ne (by decide), zf_arr _ _ _ _ _ (by decide), zf_same]; omega) (by omega) (fun h => by rw [zf_ne (by decide), zf_arr _ _ _ _ _ (by decide), zf_ne (by decide), zf_ne (by decide), zf_same] at h; rw [zf_ne (by decide), zf_arr _ _ _ _ _ (by decide), zf_same]; omega)
            exact (ih _ (by omega)).2.1 _ bs mo hbs (xpA_open hAJ (by omega) (eFr_o (a := 18) (eFr_w (by omega) (eFr_t (eFr_o (a := 14) (eFr_f hEJ (by omega) (by omega)) (by omega)) (by rw [zf_ne (by decide), zf_ne (by decide)]; omega) (by omega))) (by omega)) (by rw [zf_same]; omega) (by rw [zf_ne (by decide), zf_arr _ _ _ _ _ (by decide), zf_ne (by decide), zf_same]; omega) (by first | (rw [zf_ne (by decide), zf_arr _ _ _ _ _ (by decide), zf_ne (by decide), zf_ne (by decide), zf_ne (by decide)]; done) | (rw [zf_ne (by decide), zf_arr _ _ _ _ _ (by decide), zf_ne (by decide), zf_ne (by decide), zf_ne (by decide)]; omega)) (by rw [← hz65_5, zv_fld _ _ _ _ _ (by decide), zv_at]; omega) (fun i hi => by rw [zv_fld _ _ _ _ _ (by decide), zv_ne _ _ _ _ _ _ (by omega) (by omega) (Or.inr ⟨by omega, by omega, by omega⟩), zv_fld _ _ _ _ _ (by decide), zv_fld _ _ _ _ _ (by decide), zv_fld _ _ _ _ _ (by decide)]) (fun i hi => ⟨((zupd_fr (by unfold zid; omega)).trans ((zupd_fr (by unfold zid; omega)).trans ((zupd_fr (by unfold zid; omega)).trans ((zupd_fr (by unfold zid; omega)).trans ((zupd_fr (by unfold zid; omega)).trans rfl))))), ((zupd_fr (by unfold zid; omega)).trans ((zupd_fr (by unfold zid; omega)).trans ((zupd_fr (by unfold zid; omega)).trans ((zupd_fr (by unfold zid; omega)).trans ((zupd_fr (by unfold zid; omega)).trans rfl)))))⟩) (by rw [zf_ne (by decide), zf_arr _ _ _ _ _ (by decide), zf_same]; omega) (fun h => ⟨by rw [zf_ne (by decide), zf_arr _ _ _ _ _ (by decide), zf_ne (by decide), zf_ne (by decide), zf_same] at h; rw [zf_ne (by decide), zf_arr _ _ _ _ _ (by decide), zf_same]; omega, by rw [zf_ne (by decide), zf_arr _ _ _ _ _ (by decide), zf_ne (by decide), zf_ne (by decide), zf_same] at h; omega⟩) (by omega) (by omega)) hmo rfl
  · refine hA_if (zs_ifeq em230_29 (t := 84) (by decide)) (fun (c29' : z26.toInt = 0) => ?_) (fun (c29' : ¬ z26.toInt = 0) => ?_)
    · refine hA_aload (zs_aload_n em230_84) rfl ?_
      refine hA_callV (as := []) (rest := []) (B' := (0, 0)) (zs_invV (T := TX12) em230_85 zl_263 rfl wd_1601 wd_1603 wd_68 ((congrFun xo_12 313).trans rfl) xm_231) rfl ⟨_, rfl⟩ (Nat.le_of_ble_eq_true rfl) rfl ⟨Nat.zero_le _, Nat.zero_le _⟩ (hpre_of rfl (show hpr_263 d [.inr (.inl (some 75))] IJ from ⟨by show 3 ≤ d; omega, rfl, ⟨⟨by omega, by omega⟩, by omega, by omega, by omega⟩⟩)) (fun r85 I85 hp85 => ?_)
      replace hp85 : hpo_263 _ _ _ _ := hpost_of rfl hp85
      replace hp85 := hp85 rfl
      obtain ⟨rfl, hU, hU14, hU18, hU104, hU17, hUn, hUf⟩ := hp85
      have hb12U := hU.2.2.2.2.1
      have hb13U := hU.2.2.2.2.2.1
      have hb17U := hU.2.2.2.1
      refine hA_aload (zs_aload_n em230_88) rfl ?_
      refine hA_getf0 (id := 13) (zs_getf (T := TX12) (M := 70) (ci := 12) (j := 27) em230_89 rfl inX12 (by decide) wd_1294 ((congrFun xo_12 200).trans rfl)) ⟨_, rfl, rfl⟩ (fun z89 hz89 => ?_)
      refine hA_if (zs_ifle em230_92 (t := 96) (by decide)) (fun (c92 : z89.toInt ≤ 0) => ?_) (fun (c92 : ¬ z89.toInt ≤ 0) => ?_)
      · obtain ⟨u1, u2, u3, u4⟩ := hUf (by omega)
        have hmu := xpmu_d (J := IJ) (J' := I85) (by omega) (by omega) (by omega) (fun _ => u2)
        exact (ih _ (by omega)).2.2.1 I85 bs mo hbs (xpA_unit hAJ u1 (eFr_tr hEJ hU) (by unfold zf; rw [hU18]) (by unfold zf; rw [hU14]) u3 (fun i hi => by unfold zv; rw [hU104 _ (by omega)]) (fun i hi hh => hU.2.2.1 i hi (Or.inl hh)) u4 u2 (by omega) (by omega)) (by omega) hmo rfl
      · refine hA_return ⟨rfl, em230_95⟩ ⟨Nat.le_refl _, Nat.le_refl _⟩ ?_
        intro he
        cases he
        refine ⟨rfl, eFr_tr hEJ hU, fun _ => ?_, fun h => ?_, fun h => absurd h13 h⟩
        · by_cases hz13 : zf IJ 13 = 0
          · have := hbF hz13; omega
          · have := hUn hz13; omega
        · exfalso; omega
    · exfalso
      omega
set_option maxRecDepth 10000 in
set_option maxHeartbeats 4000000 in
theorem xp_96 {d n : Nat} {I : zI} (hc : zCalls zG0 PZ zbd zpre zpost d) (hd : 5 ≤ d + 1) (h12a : 0 ≤ zf I 12) (h12b : zf I 12 ≤ 400) (h13 : zf I 13 = 0) (h14 : zf I 14 = 0) (h23 : zf I 23 = 0 ∨ zf I 23 = 1) (h17a : 420 * zf I 23 ≤ zf I 17) (h17b : zf I 17 ≤ 420 * zf I 23 + zf I 12) (ih : ∀ m, m < n → xpG d I m) : (∀ (IJ : zI) (bs mo : Int32), bs.toInt = 0 → xpA I IJ 1 → zf I 12 + 1 ≤ zf IJ 12 → mo.toInt = 1 → xpmu IJ + 3 = n → zAt zG0 PZ zbd zpre zpost (d, (zbd 262).1, (zbd 262).2) prog_14_method_37_code "CapitalCaseModel" (zRet prog_14_method_37_code none (zbd 262) (hpost 262 [.inr (.inl (some 75))] I)) 96 [some (.inr (.inl (some 75))), some (.inl bs), some (.inl mo)] [] IJ (0, 0)) := by
  intro IJ bs mo hbs hAJ hT hmo hn
  obtain ⟨⟨hb18a, hb18b⟩, ⟨hb14a, hb14b⟩, ⟨hb12a, hb12b⟩, hb13, hb17, hbR, hbF⟩ := xpA_b hAJ
  have hEJ := hAJ.1
  refine hA_aload (zs_aload_n em230_96) rfl ?_
  refine hA_const (k := 7) (zs_bipush (v := 7) em230_97 (by decide +kernel)) (by decide +kernel) (fun z97 hz97 => ?_)
  refine hA_callV (as := [.inl z97]) (rest := []) (B' := (0, 0)) (zs_invV (T := TX12) em230_99 zl_285 rfl wd_1531 wd_1533 wd_52 ((congrFun xo_12 218).trans rfl) xm_149) rfl ⟨_, rfl⟩ (Nat.le_of_ble_eq_true rfl) rfl ⟨Nat.zero_le _, Nat.zero_le _⟩ (hpre_of rfl (show hpr_285 d [.inr (.inl (some 75)), .inl z97] IJ from ⟨by show 1 ≤ d; omega, z97, rfl, ⟨by omega, by omega⟩⟩)) (fun r99 I99 hp99 => ?_)
  replace hp99 : hpo_285 _ _ _ _ := hpost_of rfl hp99
  obtain ⟨z99, rfl, rfl, ⟨hz99, hz99f, hz99k⟩ | ⟨hz99, hz99k⟩⟩ := hp99 z97 rfl
  · refine hA_if (zs_ifeq em230_102 (t := 145) (by decide)) (fun (c102 : z99.toInt = 0) => ?_) (fun (c102 : ¬ z99.toInt = 0) => ?_)
    · exfalso
      omega
    · refine hA_aload (zs_aload_n em230_105) rfl ?_
      refine hA_getf0 (id := 14) (zs_getf (T := TX12) (M := 70) (ci := 12) (j := 26) em230_106 rfl inX12 (by decide) wd_1293 ((congrFun xo_12 227).trans rfl)) ⟨_, rfl, rfl⟩ (fun z106 hz106 => ?_)
      refine hA_iload (zs_iload_n em230_109) rfl ?_
      refine hA_icmp (zs_icmple em230_110 (t := 145) (by decide)) (fun (c110 : z106.toInt ≤ bs.toInt) => ?_) (fun (c110 : ¬ z106.toInt ≤ bs.toInt) => ?_)
      · exact (ih _ (by omega)).2.2.2.1 IJ bs mo hbs hAJ hT hmo rfl
      · refine hA_aload (zs_aload_n em230_113) rfl ?_
        refine hA_const (k := 0) (zs_iconst (v := 0) em230_114 (by decide +kernel)) (by decide +kernel) (fun z114 hz114 => ?_)
        have hAx := hAJ
        obtain ⟨-, nn, oo, kk, g1, g2, g3, g4, g5, g6, g7, g8⟩ := id hAx
        obtain ⟨⟨b18a, b18b⟩, ⟨b14a, b14b⟩, ⟨b12a, b12b⟩, b13, b17, bR, bF⟩ := xpA_b hAx
        refine hA_callV (as := [.inl z114]) (rest := []) (B' := (0, 0)) (zs_invV (T := TX12) em230_115 zl_261 rfl wd_1609 wd_1611 wd_70 ((congrFun xo_12 316).trans rfl) xm_229) rfl ⟨_, rfl⟩ (Nat.le_of_ble_eq_true rfl) rfl ⟨Nat.zero_le _, Nat.zero_le _⟩ (hpre_of rfl (show hpr_261 d [.inr (.inl (some 75)), .inl z114] IJ from ⟨by show 2 ≤ d; omega, z114, rfl, ⟨⟨by omega, by omega⟩, zf I 17, nn, oo, kk, ⟨g1, g5, by omega, b17, g6⟩, by omega, by omega⟩⟩)) (fun r115 I115 hp115 => ?_)
        replace hp115 : hpo_261 _ _ _ _ := hpost_of rfl hp115
        replace hp115 := hp115 z114 rfl
        obtain ⟨rfl, hC, hAll⟩ := hp115
        obtain ⟨hA115, n1, o1, k1, p1, p2, p3, p4, p5⟩ := xpA_out (s := z114.toInt) hAx hC hAll (by omega)
        have hE115 := hA115.1
        obtain ⟨⟨d18a, d18b⟩, ⟨d14a, d14b⟩, ⟨d12a, d12b⟩, d13, d17, dR, dF⟩ := xpA_b hA115
        have e12 : zf I115 12 = zf IJ 12 := by unfold zf; rw [hC.1 12 (by decide) (by decide) (by decide)]
        have e13 : zf I115 13 = zf IJ 13 := by unfold zf; rw [hC.1 13 (by decide) (by decide) (by decide)]
        have e14 : zf I115 14 = zf IJ 14 := by unfold zf; rw [hC.1 14 (by decide) (by decide) (by decide)]
        have e78 : zv I115 78 (zf I115 12) = zv IJ 78 (zf IJ 12) := by unfold zv; rw [show zf I115 12 = zf IJ 12 by unfold zf; rw [hC.1 12 (by decide) (by decide) (by decide)], hC.2.1 78 _ (by omega) (by decide) (by decide)]
        refine hA_aload (zs_aload_n em230_118) rfl ?_
        refine hA_dup (zs_dup em230_119) rfl ?_
        refine hA_getf0 (id := 18) (zs_getf (T := TX12) (M := 70) (ci := 12) (j := 55) em230_120 rfl inX12 (by decide) wd_1327 ((congrFun xo_12 307).trans rfl)) ⟨_, rfl, rfl⟩ (fun z120 hz120 => ?_)
        refine hA_const (k := 1) (zs_iconst (v := 1) em230_123 (by decide +kernel)) (by decide +kernel) (fun z123 hz123 => ?_)
        refine hA_sub (zs_isub em230_124) (by omega) (by omega) (fun z124 hz124 => ?_)
        refine hA_puti0 (id := 18) (zs_puti zInj0 (T := TX12) (M := 70) (ty := tyX12) (ci := 12) (j := 55) (kd := 0) em230_125 rfl inX12 tyX12_ok nmX12 (by decide) wd_1327 (Or.inl ⟨rfl, rfl⟩) rfl ((congrFun xo_12 307).trans rfl)) ⟨_, rfl, rfl⟩ (fun h => by cases h) ?_
        refine hA_aload (zs_aload_n em230_128) rfl ?_
        refine hA_dup (zs_dup em230_129) rfl ?_
        refine hA_getf0 (id := 14) (zs_getf (T := TX12) (M := 70) (ci := 12) (j := 26) em230_130 rfl inX12 (by decide) wd_1293 ((congrFun xo_12 227).trans rfl)) ⟨_, rfl, rfl⟩ (fun z130 hz130 => ?_)
        rw [zf_ne (by decide)] at hz130
        refine hA_const (k := 1) (zs_iconst (v := 1) em230_133 (by decide +kernel)) (by decide +kernel) (fun z133 hz133 => ?_)
        refine hA_sub (zs_isub em230_134) (by omega) (by omega) (fun z134 hz134 => ?_)
        refine hA_puti0 (id := 14) (zs_puti zInj0 (T := TX12) (M := 70) (ty := tyX12) (ci := 12) (j := 26) (kd := 0) em230_135 rfl inX12 tyX12_ok nmX12 (by decide) wd_1293 (Or.inl ⟨rfl, rfl⟩) rfl ((congrFun xo_12 227).trans rfl)) ⟨_, rfl, rfl⟩ (fun h => by cases h) ?_
        refine hA_aload (zs_aload_n em230_138) rfl ?_
        refine hA_callV (as := []) (rest := []) (B' := (0, 0)) (zs_invV (T := TX12) em230_139 zl_151 rfl wd_1547 wd_1549 wd_56 ((congrFun xo_12 221).trans rfl) xm_144) rfl ⟨_, rfl⟩ (Nat.le_of_ble_eq_true rfl) rfl ⟨Nat.zero_le _, Nat.zero_le _⟩ (zpre_of zh_151 ⟨(by show 2 ≤ d; omega), ⟨_, _, rfl, rfl, rfl⟩, (hF_cons (lo := 0) (hi := 400) ⟨by rw [zf_ne (by decide), zf_ne (by decide)]; omega, by rw [zf_ne (by decide), zf_ne (by decide)]; omega⟩ (hF_cons (lo := 0) (hi := 2147483647) ⟨by rw [zf_ne (by decide), zf_ne (by decide)]; omega, by rw [zf_ne (by decide), zf_ne (by decide)]; exact an_hi _⟩ hF_nil)), fun h => by cases h⟩) (fun r139 I139 hp139 => ?_)
        replace hp139 := zpost_of zh_151 hp139
        rcases zq_151 hp139 with ⟨v139_12, v139_13, rfl, rfl, hv139_12e, hv139_12l, hv139_12h, hv139_13e, hv139_13l, hv139_13h⟩ | ⟨v139_12', v139_13', rfl, rfl, hv139_12'e, hv139_12'l, hv139_12'h, hv139_13'l, hv139_13'h⟩ | ⟨v139_12'', rfl, rfl, hv139_12''e, hv139_12''l, hv139_12''h⟩
        · rw [zf_ne (by decide), zf_ne (by decide)] at hv139_12e
          rw [zf_ne (by decide), zf_ne (by decide)] at hv139_13e
          refine hA_goto (zs_goto em230_142 (t := 96) (by decide)) ?_
          have hmu := xpmu_d (J := IJ) (J' := (zupd (zupd (zupd (zupd I115 18 z124) 14 z134) 12 v139_12) 13 v139_13)) (by rw [zf_ne (by decide), zf_same]; omega) (by rw [zf_ne (by decide), zf_same]; omega) (by omega) (fun h => by rw [zf_same] at h; rw [zf_ne (by decide), zf_same]; omega)
          exact (ih _ (by omega)).2.2.1 _ bs mo hbs (xpA_close hA115 p1 p2 (by have := p5 (by omega); subst this; exact p3) (by omega) (eFr_f (eFr_t (eFr_o (a := 14) (eFr_o (a := 18) hE115 (by omega)) (by omega)) (by rw [zf_ne (by decide), zf_ne (by decide)]; omega) (by omega)) (by omega) (by rw [zf_ne (by decide), zf_ne (by decide), zf_ne (by decide)]; omega)) (by rw [zf_ne (by decide), zf_ne (by decide), zf_ne (by decide), zf_same]; omega) (by rw [zf_ne (by decide), zf_ne (by decide), zf_same]; omega) (by first | (rw [zf_ne (by decide), zf_ne (by decide), zf_ne (by decide), zf_ne (by decide)]; done) | (rw [zf_ne (by decide), zf_ne (by decide), zf_ne (by decide), zf_ne (by decide)]; omega)) (fun i hi => ((zupd_fr (by unfold zid; omega)).trans ((zupd_fr (by unfold zid; omega)).trans ((zupd_fr (by unfold zid; omega)).trans ((zupd_fr (by unfold zid; omega)).trans rfl))))) (fun i hi => ⟨((zupd_fr (by unfold zid; omega)).trans ((zupd_fr (by unfold zid; omega)).trans ((zupd_fr (by unfold zid; omega)).trans ((zupd_fr (by unfold zid; omega)).trans rfl)))), ((zupd_fr (by unfold zid; omega)).trans ((zupd_fr (by unfold zid; omega)).trans ((zupd_fr (by unfold zid; omega)).trans ((zupd_fr (by unfold zid; omega)).trans rfl))))⟩) (by rw [zf_ne (by decide), zf_same]; omega) (fun h => by omega) (by omega) (by omega)) (by rw [zf_ne (by decide), zf_same]; omega) hmo rfl
        · rw [zf_ne (by decide), zf_ne (by decide)] at hv139_12'e
          refine hA_goto (zs_goto em230_142 (t := 96) (by decide)) ?_
          have hmu := xpmu_d (J := IJ) (J' := (zupd (zupd (zupd (zupd I115 18 z124) 14 z134) 12 v139_12') 13 v139_13')) (by rw [zf_ne (by decide), zf_same]; omega) (by rw [zf_ne (by decide), zf_same]; omega) (by omega) (fun h => by rw [zf_same] at h; rw [zf_ne (by decide), zf_same]; omega)
          exact (ih _ (by omega)).2.2.1 _ bs mo hbs (xpA_close hA115 p1 p2 (by have := p5 (by omega); subst this; exact p3) (by omega) (eFr_f (eFr_t (eFr_o (a := 14) (eFr_o (a := 18) hE115 (by omega)) (by omega)) (by rw [zf_ne (by decide), zf_ne (by decide)]; omega) (by omega)) (by omega) (by rw [zf_ne (by decide), zf_ne (by decide), zf_ne (by decide)]; omega)) (by rw [zf_ne (by decide), zf_ne (by decide), zf_ne (by decide), zf_same]; omega) (by rw [zf_ne (by decide), zf_ne (by decide), zf_same]; omega) (by first | (rw [zf_ne (by decide), zf_ne (by decide), zf_ne (by decide), zf_ne (by decide)]; done) | (rw [zf_ne (by decide), zf_ne (by decide), zf_ne (by decide), zf_ne (by decide)]; omega)) (fun i hi => ((zupd_fr (by unfold zid; omega)).trans ((zupd_fr (by unfold zid; omega)).trans ((zupd_fr (by unfold zid; omega)).trans ((zupd_fr (by unfold zid; omega)).trans rfl))))) (fun i hi => ⟨((zupd_fr (by unfold zid; omega)).trans ((zupd_fr (by unfold zid; omega)).trans ((zupd_fr (by unfold zid; omega)).trans ((zupd_fr (by unfold zid; omega)).trans rfl)))), ((zupd_fr (by unfold zid; omega)).trans ((zupd_fr (by unfold zid; omega)).trans ((zupd_fr (by unfold zid; omega)).trans ((zupd_fr (by unfold zid; omega)).trans rfl))))⟩) (by rw [zf_ne (by decide), zf_same]; omega) (fun h => by omega) (by omega) (by omega)) (by rw [zf_ne (by decide), zf_same]; omega) hmo rfl
        · rw [zf_ne (by decide), zf_ne (by decide)] at hv139_12''e
          refine hA_goto (zs_goto em230_142 (t := 96) (by decide)) ?_
          have hmu := xpmu_d (J := IJ) (J' := (zupd (zupd (zupd I115 18 z124) 14 z134) 12 v139_12'')) (by rw [zf_same]; omega) (by rw [zf_same]; omega) (by omega) (fun h => by rw [zf_ne (by decide), zf_ne (by decide), zf_ne (by decide)] at h; rw [zf_same]; omega)
          exact (ih _ (by omega)).2.2.1 _ bs mo hbs (xpA_close hA115 p1 p2 (by have := p5 (by omega); subst this; exact p3) (by omega) (eFr_t (eFr_o (a := 14) (eFr_o (a := 18) hE115 (by omega)) (by omega)) (by rw [zf_ne (by decide), zf_ne (by decide)]; omega) (by omega)) (by rw [zf_ne (by decide), zf_ne (by decide), zf_same]; omega) (by rw [zf_ne (by decide), zf_same]; omega) (by first | (rw [zf_ne (by decide), zf_ne (by decide), zf_ne (by decide)]; done) | (rw [zf_ne (by decide), zf_ne (by decide), zf_ne (by decide)]; omega)) (fun i hi => ((zupd_fr (by unfold zid; omega)).trans ((zupd_fr (by unfold zid; omega)).trans ((zupd_fr (by unfold zid; omega)).trans rfl)))) (fun i hi => ⟨((zupd_fr (by unfold zid; omega)).trans ((zupd_fr (by unfold zid; omega)).trans ((zupd_fr (by unfold zid; omega)).trans rfl))), ((zupd_fr (by unfold zid; omega)).trans ((zupd_fr (by unfold zid; omega)).trans ((zupd_fr (by unfold zid; omega)).trans rfl)))⟩) (by rw [zf_same]; omega) (fun h => by omega) (by omega) (by omega)) (by rw [zf_same]; omega) hmo rfl
  · refine hA_if (zs_ifeq em230_102 (t := 145) (by decide)) (fun (c102' : z99.toInt = 0) => ?_) (fun (c102' : ¬ z99.toInt = 0) => ?_)
    · exact (ih _ (by omega)).2.2.2.1 IJ bs mo hbs hAJ hT hmo rfl
    · exfalso
      omega
set_option maxRecDepth 10000 in
set_option maxHeartbeats 4000000 in
theorem xp_145 {d n : Nat} {I : zI} (hc : zCalls zG0 PZ zbd zpre zpost d) (hd : 5 ≤ d + 1) (h12a : 0 ≤ zf I 12) (h12b : zf I 12 ≤ 400) (h13 : zf I 13 = 0) (h14 : zf I 14 = 0) (h23 : zf I 23 = 0 ∨ zf I 23 = 1) (h17a : 420 * zf I 23 ≤ zf I 17) (h17b : zf I 17 ≤ 420 * zf I 23 + zf I 12) (ih : ∀ m, m < n → xpG d I m) : (∀ (IJ : zI) (bs mo : Int32), bs.toInt = 0 → xpA I IJ 1 → zf I 12 + 1 ≤ zf IJ 12 → mo.toInt = 1 → xpmu IJ + 2 = n → zAt zG0 PZ zbd zpre zpost (d, (zbd 262).1, (zbd 262).2) prog_14_method_37_code "CapitalCaseModel" (zRet prog_14_method_37_code none (zbd 262) (hpost 262 [.inr (.inl (some 75))] I)) 145 [some (.inr (.inl (some 75))), some (.inl bs), some (.inl mo)] [] IJ (0, 0)) := by
  intro IJ bs mo hbs hAJ hT hmo hn
  obtain ⟨⟨hb18a, hb18b⟩, ⟨hb14a, hb14b⟩, ⟨hb12a, hb12b⟩, hb13, hb17, hbR, hbF⟩ := xpA_b hAJ
  have hEJ := hAJ.1
  refine hA_aload (zs_aload_n em230_145) rfl ?_
  refine hA_const (k := 8) (zs_bipush (v := 8) em230_146 (by decide +kernel)) (by decide +kernel) (fun z146 hz146 => ?_)
  refine hA_callV (as := [.inl z146]) (rest := []) (B' := (0, 0)) (zs_invV (T := TX12) em230_148 zl_285 rfl wd_1531 wd_1533 wd_52 ((congrFun xo_12 218).trans rfl) xm_149) rfl ⟨_, rfl⟩ (Nat.le_of_ble_eq_true rfl) rfl ⟨Nat.zero_le _, Nat.zero_le _⟩ (hpre_of rfl (show hpr_285 d [.inr (.inl (some 75)), .inl z146] IJ from ⟨by show 1 ≤ d; omega, z146, rfl, ⟨by omega, by omega⟩⟩)) (fun r148 I148 hp148 => ?_)
  replace hp148 : hpo_285 _ _ _ _ := hpost_of rfl hp148
  obtain ⟨z148, rfl, rfl, ⟨hz148, hz148f, hz148k⟩ | ⟨hz148, hz148k⟩⟩ := hp148 z146 rfl
  · refine hA_if (zs_ifne em230_151 (t := 181) (by decide)) (fun (c151 : ¬ z148.toInt = 0) => ?_) (fun (c151 : ¬ ¬ z148.toInt = 0) => ?_)
    · refine hA_const (k := 1) (zs_iconst (v := 1) em230_181 (by decide +kernel)) (by decide +kernel) (fun z181 hz181 => ?_)
      refine hA_goto (zs_goto em230_182 (t := 186) (by decide)) ?_
      refine hA_istore (L' := [some (.inr (.inl (some 75))), some (.inl bs), some (.inl z181)]) (zs_istore_n em230_186) ⟨Nat.le_of_ble_eq_true rfl, rfl⟩ rfl ?_
      refine hA_iload (zs_iload_n em230_187) rfl ?_
      refine hA_if (zs_ifne em230_188 (t := 210) (by decide)) (fun (c188 : ¬ z181.toInt = 0) => ?_) (fun (c188 : ¬ ¬ z181.toInt = 0) => ?_)
      · exact (ih _ (by omega)).2.2.2.2.2 IJ bs z181 hbs hAJ hT (by omega) (by omega) (by omega) rfl
      · exact (ih _ (by omega)).2.2.2.2.1 IJ bs z181 hbs hAJ hT rfl
    · exfalso
      omega
  · refine hA_if (zs_ifne em230_151 (t := 181) (by decide)) (fun (c151' : ¬ z148.toInt = 0) => ?_) (fun (c151' : ¬ ¬ z148.toInt = 0) => ?_)
    · exfalso
      omega
    · refine hA_aload (zs_aload_n em230_154) rfl ?_
      refine hA_const (k := 9) (zs_bipush (v := 9) em230_155 (by decide +kernel)) (by decide +kernel) (fun z155 hz155 => ?_)
      refine hA_callV (as := [.inl z155]) (rest := []) (B' := (0, 0)) (zs_invV (T := TX12) em230_157 zl_285 rfl wd_1531 wd_1533 wd_52 ((congrFun xo_12 218).trans rfl) xm_149) rfl ⟨_, rfl⟩ (Nat.le_of_ble_eq_true rfl) rfl ⟨Nat.zero_le _, Nat.zero_le _⟩ (hpre_of rfl (show hpr_285 d [.inr (.inl (some 75)), .inl z155] IJ from ⟨by show 1 ≤ d; omega, z155, rfl, ⟨by omega, by omega⟩⟩)) (fun r157 I157 hp157 => ?_)
      replace hp157 : hpo_285 _ _ _ _ := hpost_of rfl hp157
      obtain ⟨z157, rfl, rfl, ⟨hz157, hz157f, hz157k⟩ | ⟨hz157, hz157k⟩⟩ := hp157 z155 rfl
      · refine hA_if (zs_ifne em230_160 (t := 181) (by decide)) (fun (c160 : ¬ z157.toInt = 0) => ?_) (fun (c160 : ¬ ¬ z157.toInt = 0) => ?_)
        · refine hA_const (k := 1) (zs_iconst (v := 1) em230_181 (by decide +kernel)) (by decide +kernel) (fun z181' hz181' => ?_)
          refine hA_goto (zs_goto em230_182 (t := 186) (by decide)) ?_
          refine hA_istore (L' := [some (.inr (.inl (some 75))), some (.inl bs), some (.inl z181')]) (zs_istore_n em230_186) ⟨Nat.le_of_ble_eq_true rfl, rfl⟩ rfl ?_
          refine hA_iload (zs_iload_n em230_187) rfl ?_
          refine hA_if (zs_ifne em230_188 (t := 210) (by decide)) (fun (c188' : ¬ z181'.toInt = 0) => ?_) (fun (c188' : ¬ ¬ z181'.toInt = 0) => ?_)
          · exact (ih _ (by omega)).2.2.2.2.2 IJ bs z181' hbs hAJ hT (by omega) (by omega) (by omega) rfl
          · exact (ih _ (by omega)).2.2.2.2.1 IJ bs z181' hbs hAJ hT rfl
        · exfalso
          omega
      · refine hA_if (zs_ifne em230_160 (t := 181) (by decide)) (fun (c160' : ¬ z157.toInt = 0) => ?_) (fun (c160' : ¬ ¬ z157.toInt = 0) => ?_)
        · exfalso
          omega
        · refine hA_aload (zs_aload_n em230_163) rfl ?_
          refine hA_const (k := 10) (zs_bipush (v := 10) em230_164 (by decide +kernel)) (by decide +kernel) (fun z164 hz164 => ?_)
          refine hA_callV (as := [.inl z164]) (rest := []) (B' := (0, 0)) (zs_invV (T := TX12) em230_166 zl_285 rfl wd_1531 wd_1533 wd_52 ((congrFun xo_12 218).trans rfl) xm_149) rfl ⟨_, rfl⟩ (Nat.le_of_ble_eq_true rfl) rfl ⟨Nat.zero_le _, Nat.zero_le _⟩ (hpre_of rfl (show hpr_285 d [.inr (.inl (some 75)), .inl z164] IJ from ⟨by show 1 ≤ d; omega, z164, rfl, ⟨by omega, by omega⟩⟩)) (fun r166 I166 hp166 => ?_)
          replace hp166 : hpo_285 _ _ _ _ := hpost_of rfl hp166
          obtain ⟨z166, rfl, rfl, ⟨hz166, hz166f, hz166k⟩ | ⟨hz166, hz166k⟩⟩ := hp166 z164 rfl
          · refine hA_if (zs_ifne em230_169 (t := 181) (by decide)) (fun (c169 : ¬ z166.toInt = 0) => ?_) (fun (c169 : ¬ ¬ z166.toInt = 0) => ?_)
            · refine hA_const (k := 1) (zs_iconst (v := 1) em230_181 (by decide +kernel)) (by decide +kernel) (fun z181'' hz181'' => ?_)
              refine hA_goto (zs_goto em230_182 (t := 186) (by decide)) ?_
              refine hA_istore (L' := [some (.inr (.inl (some 75))), some (.inl bs), some (.inl z181'')]) (zs_istore_n em230_186) ⟨Nat.le_of_ble_eq_true rfl, rfl⟩ rfl ?_
              refine hA_iload (zs_iload_n em230_187) rfl ?_
              refine hA_if (zs_ifne em230_188 (t := 210) (by decide)) (fun (c188'' : ¬ z181''.toInt = 0) => ?_) (fun (c188'' : ¬ ¬ z181''.toInt = 0) => ?_)
              · exact (ih _ (by omega)).2.2.2.2.2 IJ bs z181'' hbs hAJ hT (by omega) (by omega) (by omega) rfl
              · exact (ih _ (by omega)).2.2.2.2.1 IJ bs z181'' hbs hAJ hT rfl
            · exfalso
              omega
          · refine hA_if (zs_ifne em230_169 (t := 181) (by decide)) (fun (c169' : ¬ z166.toInt = 0) => ?_) (fun (c169' : ¬ ¬ z166.toInt = 0) => ?_)
            · exfalso
              omega
            · refine hA_aload (zs_aload_n em230_172) rfl ?_
              refine hA_const (k := 15) (zs_bipush (v := 15) em230_173 (by decide +kernel)) (by decide +kernel) (fun z173 hz173 => ?_)
              refine hA_callV (as := [.inl z173]) (rest := []) (B' := (0, 0)) (zs_invV (T := TX12) em230_175 zl_285 rfl wd_1531 wd_1533 wd_52 ((congrFun xo_12 218).trans rfl) xm_149) rfl ⟨_, rfl⟩ (Nat.le_of_ble_eq_true rfl) rfl ⟨Nat.zero_le _, Nat.zero_le _⟩ (hpre_of rfl (show hpr_285 d [.inr (.inl (some 75)), .inl z173] IJ from ⟨by show 1 ≤ d; omega, z173, rfl, ⟨by omega, by omega⟩⟩)) (fun r175 I175 hp175 => ?_)
              replace hp175 : hpo_285 _ _ _ _ := hpost_of rfl hp175
              obtain ⟨z175, rfl, rfl, ⟨hz175, hz175f, hz175k⟩ | ⟨hz175, hz175k⟩⟩ := hp175 z173 rfl
              · refine hA_if (zs_ifeq em230_178 (t := 185) (by decide)) (fun (c178 : z175.toInt = 0) => ?_) (fun (c178 : ¬ z175.toInt = 0) => ?_)
                · exfalso
                  omega
                · refine hA_const (k := 1) (zs_iconst (v := 1) em230_181 (by decide +kernel)) (by decide +kernel) (fun z181_3 hz181_3 => ?_)
                  refine hA_goto (zs_goto em230_182 (t := 186) (by decide)) ?_
                  refine hA_istore (L' := [some (.inr (.inl (some 75))), some (.inl bs), some (.inl z181_3)]) (zs_istore_n em230_186) ⟨Nat.le_of_ble_eq_true rfl, rfl⟩ rfl ?_
                  refine hA_iload (zs_iload_n em230_187) rfl ?_
                  refine hA_if (zs_ifne em230_188 (t := 210) (by decide)) (fun (c188_3 : ¬ z181_3.toInt = 0) => ?_) (fun (c188_3 : ¬ ¬ z181_3.toInt = 0) => ?_)
                  · exact (ih _ (by omega)).2.2.2.2.2 IJ bs z181_3 hbs hAJ hT (by omega) (by omega) (by omega) rfl
                  · exact (ih _ (by omega)).2.2.2.2.1 IJ bs z181_3 hbs hAJ hT rfl
              · refine hA_if (zs_ifeq em230_178 (t := 185) (by decide)) (fun (c178' : z175.toInt = 0) => ?_) (fun (c178' : ¬ z175.toInt = 0) => ?_)
                · refine hA_const (k := 0) (zs_iconst (v := 0) em230_185 (by decide +kernel)) (by decide +kernel) (fun z185 hz185 => ?_)
                  refine hA_istore (L' := [some (.inr (.inl (some 75))), some (.inl bs), some (.inl z185)]) (zs_istore_n em230_186) ⟨Nat.le_of_ble_eq_true rfl, rfl⟩ rfl ?_
                  refine hA_iload (zs_iload_n em230_187) rfl ?_
                  refine hA_if (zs_ifne em230_188 (t := 210) (by decide)) (fun (c188_4 : ¬ z185.toInt = 0) => ?_) (fun (c188_4 : ¬ ¬ z185.toInt = 0) => ?_)
                  · exact (ih _ (by omega)).2.2.2.2.2 IJ bs z185 hbs hAJ hT (by omega) (by omega) (by omega) rfl
                  · exact (ih _ (by omega)).2.2.2.2.1 IJ bs z185 hbs hAJ hT rfl
                · exfalso
                  omega
set_option maxRecDepth 10000 in
set_option maxHeartbeats 4000000 in
theorem xp_191 {d n : Nat} {I : zI} (hc : zCalls zG0 PZ zbd zpre zpost d) (hd : 5 ≤ d + 1) (h12a : 0 ≤ zf I 12) (h12b : zf I 12 ≤ 400) (h13 : zf I 13 = 0) (h14 : zf I 14 = 0) (h23 : zf I 23 = 0 ∨ zf I 23 = 1) (h17a : 420 * zf I 23 ≤ zf I 17) (h17b : zf I 17 ≤ 420 * zf I 23 + zf I 12) (ih : ∀ m, m < n → xpG d I m) : (∀ (IJ : zI) (bs mo : Int32), bs.toInt = 0 → xpA I IJ 1 → zf I 12 + 1 ≤ zf IJ 12 → xpmu IJ + 1 = n → zAt zG0 PZ zbd zpre zpost (d, (zbd 262).1, (zbd 262).2) prog_14_method_37_code "CapitalCaseModel" (zRet prog_14_method_37_code none (zbd 262) (hpost 262 [.inr (.inl (some 75))] I)) 191 [some (.inr (.inl (some 75))), some (.inl bs), some (.inl mo)] [] IJ (0, 0)) := by
  intro IJ bs mo hbs hAJ hT hn
  obtain ⟨⟨hb18a, hb18b⟩, ⟨hb14a, hb14b⟩, ⟨hb12a, hb12b⟩, hb13, hb17, hbR, hbF⟩ := xpA_b hAJ
  have hEJ := hAJ.1
  refine hA_aload (zs_aload_n em230_191) rfl ?_
  refine hA_getf0 (id := 14) (zs_getf (T := TX12) (M := 70) (ci := 12) (j := 26) em230_192 rfl inX12 (by decide) wd_1293 ((congrFun xo_12 227).trans rfl)) ⟨_, rfl, rfl⟩ (fun z192 hz192 => ?_)
  refine hA_iload (zs_iload_n em230_195) rfl ?_
  refine hA_icmp (zs_icmple em230_196 (t := 204) (by decide)) (fun (c196 : z192.toInt ≤ bs.toInt) => ?_) (fun (c196 : ¬ z192.toInt ≤ bs.toInt) => ?_)
  · refine hA_aload (zs_aload_n em230_204) rfl ?_
    refine hA_const (k := 0) (zs_iconst (v := 0) em230_205 (by decide +kernel)) (by decide +kernel) (fun z205 hz205 => ?_)
    have hAx := hAJ
    obtain ⟨-, nn, oo, kk, g1, g2, g3, g4, g5, g6, g7, g8⟩ := id hAx
    obtain ⟨⟨b18a, b18b⟩, ⟨b14a, b14b⟩, ⟨b12a, b12b⟩, b13, b17, bR, bF⟩ := xpA_b hAx
    refine hA_callV (as := [.inl z205]) (rest := []) (B' := (0, 0)) (zs_invV (T := TX12) em230_206 zl_261 rfl wd_1609 wd_1611 wd_70 ((congrFun xo_12 316).trans rfl) xm_229) rfl ⟨_, rfl⟩ (Nat.le_of_ble_eq_true rfl) rfl ⟨Nat.zero_le _, Nat.zero_le _⟩ (hpre_of rfl (show hpr_261 d [.inr (.inl (some 75)), .inl z205] IJ from ⟨by show 2 ≤ d; omega, z205, rfl, ⟨⟨by omega, by omega⟩, zf I 17, nn, oo, kk, ⟨g1, g5, by omega, b17, g6⟩, by omega, by omega⟩⟩)) (fun r206 I206 hp206 => ?_)
    replace hp206 : hpo_261 _ _ _ _ := hpost_of rfl hp206
    replace hp206 := hp206 z205 rfl
    obtain ⟨rfl, hC, hAll⟩ := hp206
    obtain ⟨hA206, n1, o1, k1, p1, p2, p3, p4, p5⟩ := xpA_out (s := z205.toInt) hAx hC hAll (by omega)
    have hE206 := hA206.1
    obtain ⟨⟨d18a, d18b⟩, ⟨d14a, d14b⟩, ⟨d12a, d12b⟩, d13, d17, dR, dF⟩ := xpA_b hA206
    have e12 : zf I206 12 = zf IJ 12 := by unfold zf; rw [hC.1 12 (by decide) (by decide) (by decide)]
    have e13 : zf I206 13 = zf IJ 13 := by unfold zf; rw [hC.1 13 (by decide) (by decide) (by decide)]
    have e14 : zf I206 14 = zf IJ 14 := by unfold zf; rw [hC.1 14 (by decide) (by decide) (by decide)]
    have e78 : zv I206 78 (zf I206 12) = zv IJ 78 (zf IJ 12) := by unfold zv; rw [show zf I206 12 = zf IJ 12 by unfold zf; rw [hC.1 12 (by decide) (by decide) (by decide)], hC.2.1 78 _ (by omega) (by decide) (by decide)]
    refine hA_return ⟨rfl, em230_209⟩ ⟨Nat.le_refl _, Nat.le_refl _⟩ ?_
    intro he
    cases he
    refine ⟨rfl, hE206, fun _ => by omega, fun h => ?_, fun h => absurd h13 h⟩
    first
      | (exfalso; omega)
      | (have h1 := p5 (by omega); have ho : o1 = 0 := by omega
         subst ho
         exact ⟨h13, by have := dF h; omega, by omega, by omega, xpA_end hA206 p1 p2 p3 h1⟩)
  · refine hA_aload (zs_aload_n em230_199) rfl ?_
    refine hA_const (k := 1) (zs_iconst (v := 1) em230_200 (by decide +kernel)) (by decide +kernel) (fun z200 hz200 => ?_)
    refine hA_callV (as := [.inl z200]) (rest := []) (B' := (0, 0)) (zs_invV (T := TX12) em230_201 zl_140 rfl wd_1543 wd_1545 wd_55 ((congrFun xo_12 215).trans rfl) xm_133) rfl ⟨_, rfl⟩ (Nat.le_of_ble_eq_true rfl) rfl ⟨Nat.zero_le _, Nat.zero_le _⟩ (zpre_of zh_140 ⟨(by show 1 ≤ d; omega), ⟨_, _, rfl, rfl, ⟨_, _, rfl, ⟨_, rfl, show (1 : Int) ≤ z200.toInt by omega, show z200.toInt ≤ (6 : Int) by omega⟩, rfl⟩⟩, (hF_cons (lo := 0) (hi := 400) ⟨by omega, by omega⟩ (hF_cons (lo := 0) (hi := 2147483647) ⟨by omega, by exact an_hi _⟩ hF_nil)), fun h => by cases h⟩) (fun r201 I201 hp201 => ?_)
    replace hp201 := zpost_of zh_140 hp201
    rcases zq_140 hp201 with ⟨v201_13, rfl, rfl, hv201_13e, hv201_13l, hv201_13h⟩ | ⟨v201_13', rfl, rfl, hv201_13'l, hv201_13'h⟩
    · refine hA_aload (zs_aload_n em230_204) rfl ?_
      refine hA_const (k := 0) (zs_iconst (v := 0) em230_205 (by decide +kernel)) (by decide +kernel) (fun z205' hz205' => ?_)
      have hAx := (xpA_f hAJ (by omega))
      obtain ⟨-, nn, oo, kk, g1, g2, g3, g4, g5, g6, g7, g8⟩ := id hAx
      obtain ⟨⟨b18a, b18b⟩, ⟨b14a, b14b⟩, ⟨b12a, b12b⟩, b13, b17, bR, bF⟩ := xpA_b hAx
      refine hA_callV (as := [.inl z205']) (rest := []) (B' := (0, 0)) (zs_invV (T := TX12) em230_206 zl_261 rfl wd_1609 wd_1611 wd_70 ((congrFun xo_12 316).trans rfl) xm_229) rfl ⟨_, rfl⟩ (Nat.le_of_ble_eq_true rfl) rfl ⟨Nat.zero_le _, Nat.zero_le _⟩ (hpre_of rfl (show hpr_261 d [.inr (.inl (some 75)), .inl z205'] (zupd IJ 13 v201_13) from ⟨by show 2 ≤ d; omega, z205', rfl, ⟨⟨by omega, by omega⟩, zf I 17, nn, oo, kk, ⟨g1, g5, by omega, b17, g6⟩, by omega, by omega⟩⟩)) (fun r206 I206 hp206 => ?_)
      replace hp206 : hpo_261 _ _ _ _ := hpost_of rfl hp206
      replace hp206 := hp206 z205' rfl
      obtain ⟨rfl, hC, hAll⟩ := hp206
      obtain ⟨hA206, n1, o1, k1, p1, p2, p3, p4, p5⟩ := xpA_out (s := z205'.toInt) hAx hC hAll (by omega)
      have hE206 := hA206.1
      obtain ⟨⟨d18a, d18b⟩, ⟨d14a, d14b⟩, ⟨d12a, d12b⟩, d13, d17, dR, dF⟩ := xpA_b hA206
      have e12 : zf I206 12 = zf (zupd IJ 13 v201_13) 12 := by unfold zf; rw [hC.1 12 (by decide) (by decide) (by decide)]
      rw [zf_ne (by decide)] at e12
      have e13 : zf I206 13 = zf (zupd IJ 13 v201_13) 13 := by unfold zf; rw [hC.1 13 (by decide) (by decide) (by decide)]
      rw [zf_same] at e13
      have e14 : zf I206 14 = zf (zupd IJ 13 v201_13) 14 := by unfold zf; rw [hC.1 14 (by decide) (by decide) (by decide)]
      rw [zf_ne (by decide)] at e14
      have e78 : zv I206 78 (zf I206 12) = zv (zupd IJ 13 v201_13) 78 (zf (zupd IJ 13 v201_13) 12) := by unfold zv; rw [show zf I206 12 = zf (zupd IJ 13 v201_13) 12 by unfold zf; rw [hC.1 12 (by decide) (by decide) (by decide)], hC.2.1 78 _ (by omega) (by decide) (by decide)]
      refine hA_return ⟨rfl, em230_209⟩ ⟨Nat.le_refl _, Nat.le_refl _⟩ ?_
      intro he
      cases he
      refine ⟨rfl, hE206, fun _ => by omega, fun h => ?_, fun h => absurd h13 h⟩
      first
        | (exfalso; omega)
        | (have h1 := p5 (by omega); have ho : o1 = 0 := by omega
           subst ho
           exact ⟨h13, by have := dF h; omega, by omega, by omega, xpA_end hA206 p1 p2 p3 h1⟩)
    · refine hA_aload (zs_aload_n em230_204) rfl ?_
      refine hA_const (k := 0) (zs_iconst (v := 0) em230_205 (by decide +kernel)) (by decide +kernel) (fun z205'' hz205'' => ?_)
      have hAx := (xpA_f hAJ (by omega))
      obtain ⟨-, nn, oo, kk, g1, g2, g3, g4, g5, g6, g7, g8⟩ := id hAx
      obtain ⟨⟨b18a, b18b⟩, ⟨b14a, b14b⟩, ⟨b12a, b12b⟩, b13, b17, bR, bF⟩ := xpA_b hAx
      refine hA_callV (as := [.inl z205'']) (rest := []) (B' := (0, 0)) (zs_invV (T := TX12) em230_206 zl_261 rfl wd_1609 wd_1611 wd_70 ((congrFun xo_12 316).trans rfl) xm_229) rfl ⟨_, rfl⟩ (Nat.le_of_ble_eq_true rfl) rfl ⟨Nat.zero_le _, Nat.zero_le _⟩ (hpre_of rfl (show hpr_261 d [.inr (.inl (some 75)), .inl z205''] (zupd IJ 13 v201_13') from ⟨by show 2 ≤ d; omega, z205'', rfl, ⟨⟨by omega, by omega⟩, zf I 17, nn, oo, kk, ⟨g1, g5, by omega, b17, g6⟩, by omega, by omega⟩⟩)) (fun r206 I206 hp206 => ?_)
      replace hp206 : hpo_261 _ _ _ _ := hpost_of rfl hp206
      replace hp206 := hp206 z205'' rfl
      obtain ⟨rfl, hC, hAll⟩ := hp206
      obtain ⟨hA206, n1, o1, k1, p1, p2, p3, p4, p5⟩ := xpA_out (s := z205''.toInt) hAx hC hAll (by omega)
      have hE206 := hA206.1
      obtain ⟨⟨d18a, d18b⟩, ⟨d14a, d14b⟩, ⟨d12a, d12b⟩, d13, d17, dR, dF⟩ := xpA_b hA206
      have e12 : zf I206 12 = zf (zupd IJ 13 v201_13') 12 := by unfold zf; rw [hC.1 12 (by decide) (by decide) (by decide)]
      rw [zf_ne (by decide)] at e12
      have e13 : zf I206 13 = zf (zupd IJ 13 v201_13') 13 := by unfold zf; rw [hC.1 13 (by decide) (by decide) (by decide)]
      rw [zf_same] at e13
      have e14 : zf I206 14 = zf (zupd IJ 13 v201_13') 14 := by unfold zf; rw [hC.1 14 (by decide) (by decide) (by decide)]
      rw [zf_ne (by decide)] at e14
      have e78 : zv I206 78 (zf I206 12) = zv (zupd IJ 13 v201_13') 78 (zf (zupd IJ 13 v201_13') 12) := by unfold zv; rw [show zf I206 12 = zf (zupd IJ 13 v201_13') 12 by unfold zf; rw [hC.1 12 (by decide) (by decide) (by decide)], hC.2.1 78 _ (by omega) (by decide) (by decide)]
      refine hA_return ⟨rfl, em230_209⟩ ⟨Nat.le_refl _, Nat.le_refl _⟩ ?_
      intro he
      cases he
      refine ⟨rfl, hE206, fun _ => by omega, fun h => ?_, fun h => absurd h13 h⟩
      first
        | (exfalso; omega)
        | (have h1 := p5 (by omega); have ho : o1 = 0 := by omega
           subst ho
           exact ⟨h13, by have := dF h; omega, by omega, by omega, xpA_end hA206 p1 p2 p3 h1⟩)
set_option maxRecDepth 10000 in
set_option maxHeartbeats 4000000 in
theorem xp_210 {d n : Nat} {I : zI} (hc : zCalls zG0 PZ zbd zpre zpost d) (hd : 5 ≤ d + 1) (h12a : 0 ≤ zf I 12) (h12b : zf I 12 ≤ 400) (h13 : zf I 13 = 0) (h14 : zf I 14 = 0) (h23 : zf I 23 = 0 ∨ zf I 23 = 1) (h17a : 420 * zf I 23 ≤ zf I 17) (h17b : zf I 17 ≤ 420 * zf I 23 + zf I 12) (ih : ∀ m, m < n → xpG d I m) : (∀ (IJ : zI) (bs mo : Int32), bs.toInt = 0 → xpA I IJ 1 → zf I 12 + 1 ≤ zf IJ 12 → mo.toInt = 1 → zf IJ 13 = 0 → (zv IJ 78 (zf IJ 12) = 8 ∨ zv IJ 78 (zf IJ 12) = 9 ∨ zv IJ 78 (zf IJ 12) = 10 ∨ zv IJ 78 (zf IJ 12) = 15) → xpmu IJ + 0 = n → zAt zG0 PZ zbd zpre zpost (d, (zbd 262).1, (zbd 262).2) prog_14_method_37_code "CapitalCaseModel" (zRet prog_14_method_37_code none (zbd 262) (hpost 262 [.inr (.inl (some 75))] I)) 210 [some (.inr (.inl (some 75))), some (.inl bs), some (.inl mo)] [] IJ (0, 0)) := by
  intro IJ bs mo hbs hAJ hT hmo hf0 hkd hn
  obtain ⟨⟨hb18a, hb18b⟩, ⟨hb14a, hb14b⟩, ⟨hb12a, hb12b⟩, hb13, hb17, hbR, hbF⟩ := xpA_b hAJ
  have hEJ := hAJ.1
  refine hA_aload (zs_aload_n em230_210) rfl ?_
  refine hA_aload (zs_aload_n em230_211) rfl ?_
  refine hA_const (k := 10) (zs_bipush (v := 10) em230_212 (by decide +kernel)) (by decide +kernel) (fun z212 hz212 => ?_)
  refine hA_callV (as := [.inl z212]) (rest := [.inr (.inl (some 75))]) (B' := (0, 0)) (zs_invV (T := TX12) em230_214 zl_285 rfl wd_1531 wd_1533 wd_52 ((congrFun xo_12 218).trans rfl) xm_149) rfl ⟨_, rfl⟩ (Nat.le_of_ble_eq_true rfl) rfl ⟨Nat.zero_le _, Nat.zero_le _⟩ (hpre_of rfl (show hpr_285 d [.inr (.inl (some 75)), .inl z212] IJ from ⟨by show 1 ≤ d; omega, z212, rfl, ⟨by omega, by omega⟩⟩)) (fun r214 I214 hp214 => ?_)
  replace hp214 : hpo_285 _ _ _ _ := hpost_of rfl hp214
  obtain ⟨z214, rfl, rfl, ⟨hz214, hz214f, hz214k⟩ | ⟨hz214, hz214k⟩⟩ := hp214 z212 rfl
  · refine hA_if (zs_ifne em230_217 (t := 229) (by decide)) (fun (c217 : ¬ z214.toInt = 0) => ?_) (fun (c217 : ¬ ¬ z214.toInt = 0) => ?_)
    · refine hA_const (k := 1) (zs_iconst (v := 1) em230_229 (by decide +kernel)) (by decide +kernel) (fun z229 hz229 => ?_)
      refine hA_goto (zs_goto em230_230 (t := 234) (by decide)) ?_
      have hAx := hAJ
      obtain ⟨-, nn, oo, kk, g1, g2, g3, g4, g5, g6, g7, g8⟩ := id hAx
      obtain ⟨⟨b18a, b18b⟩, ⟨b14a, b14b⟩, ⟨b12a, b12b⟩, b13, b17, bR, bF⟩ := xpA_b hAx
      refine hA_callV (as := [.inl z229]) (rest := []) (B' := (0, 0)) (zs_invV (T := TX12) em230_234 zl_261 rfl wd_1609 wd_1611 wd_70 ((congrFun xo_12 316).trans rfl) xm_229) rfl ⟨_, rfl⟩ (Nat.le_of_ble_eq_true rfl) rfl ⟨Nat.zero_le _, Nat.zero_le _⟩ (hpre_of rfl (show hpr_261 d [.inr (.inl (some 75)), .inl z229] IJ from ⟨by show 2 ≤ d; omega, z229, rfl, ⟨⟨by omega, by omega⟩, zf I 17, nn, oo, kk, ⟨g1, g5, by omega, b17, g6⟩, by omega, by omega⟩⟩)) (fun r234 I234 hp234 => ?_)
      replace hp234 : hpo_261 _ _ _ _ := hpost_of rfl hp234
      replace hp234 := hp234 z229 rfl
      obtain ⟨rfl, hC, hAll⟩ := hp234
      obtain ⟨hA234, n1, o1, k1, p1, p2, p3, p4, p5⟩ := xpA_out (s := z229.toInt) hAx hC hAll (by omega)
      have hE234 := hA234.1
      obtain ⟨⟨d18a, d18b⟩, ⟨d14a, d14b⟩, ⟨d12a, d12b⟩, d13, d17, dR, dF⟩ := xpA_b hA234
      have e12 : zf I234 12 = zf IJ 12 := by unfold zf; rw [hC.1 12 (by decide) (by decide) (by decide)]
      have e13 : zf I234 13 = zf IJ 13 := by unfold zf; rw [hC.1 13 (by decide) (by decide) (by decide)]
      have e14 : zf I234 14 = zf IJ 14 := by unfold zf; rw [hC.1 14 (by decide) (by decide) (by decide)]
      have e78 : zv I234 78 (zf I234 12) = zv IJ 78 (zf IJ 12) := by unfold zv; rw [show zf I234 12 = zf IJ 12 by unfold zf; rw [hC.1 12 (by decide) (by decide) (by decide)], hC.2.1 78 _ (by omega) (by decide) (by decide)]
      refine hA_aload (zs_aload_n em230_237) rfl ?_
      refine hA_getf2 (r := 104) (zs_getf (T := TX12) (M := 70) (ci := 12) (j := 54) em230_238 rfl inX12 (by decide) wd_1326 ((congrFun xo_12 104).trans rfl)) ⟨_, rfl, rfl⟩ ?_
      refine hA_aload (zs_aload_n em230_241) rfl ?_
      refine hA_getf0 (id := 18) (zs_getf (T := TX12) (M := 70) (ci := 12) (j := 55) em230_242 rfl inX12 (by decide) wd_1327 ((congrFun xo_12 307).trans rfl)) ⟨_, rfl, rfl⟩ (fun z242 hz242 => ?_)
      refine hA_aload (zs_aload_n em230_245) rfl ?_
      refine hA_getf2 (r := 78) (zs_getf (T := TX12) (M := 70) (ci := 12) (j := 19) em230_246 rfl inX12 (by decide) wd_1286 ((congrFun xo_12 20).trans rfl)) ⟨_, rfl, rfl⟩ ?_
      refine hA_aload (zs_aload_n em230_249) rfl ?_
      refine hA_getf0 (id := 12) (zs_getf (T := TX12) (M := 70) (ci := 12) (j := 25) em230_250 rfl inX12 (by decide) wd_1292 ((congrFun xo_12 203).trans rfl)) ⟨_, rfl, rfl⟩ (fun z250 hz250 => ?_)
      refine hA_iald (kd := 78) (len := 403) (zs_iald em230_253) ⟨rfl, rfl, rfl⟩ (by omega) (by show _ < ((403 : Nat) : Int); omega) (fun z253 hz253 => ?_)
      rw [hz250] at hz253
      refine hA_iast (kd := 104) (len := 64) (zs_iast zInj0 em230_254) ⟨rfl, rfl, rfl⟩ (by omega) (by show _ < ((64 : Nat) : Int); omega) ?_
      refine hA_aload (zs_aload_n em230_255) rfl ?_
      refine hA_dup (zs_dup em230_256) rfl ?_
      refine hA_getf0 (id := 18) (zs_getf (T := TX12) (M := 70) (ci := 12) (j := 55) em230_257 rfl inX12 (by decide) wd_1327 ((congrFun xo_12 307).trans rfl)) ⟨_, rfl, rfl⟩ (fun z257 hz257 => ?_)
      rw [zf_arr _ _ _ _ _ (by decide)] at hz257
      refine hA_const (k := 1) (zs_iconst (v := 1) em230_260 (by decide +kernel)) (by decide +kernel) (fun z260 hz260 => ?_)
      refine hA_add (zs_iadd em230_261) (by omega) (by omega) (fun z261 hz261 => ?_)
      refine hA_puti0 (id := 18) (zs_puti zInj0 (T := TX12) (M := 70) (ty := tyX12) (ci := 12) (j := 55) (kd := 0) em230_262 rfl inX12 tyX12_ok nmX12 (by decide) wd_1327 (Or.inl ⟨rfl, rfl⟩) rfl ((congrFun xo_12 307).trans rfl)) ⟨_, rfl, rfl⟩ (fun h => by cases h) ?_
      refine hA_aload (zs_aload_n em230_265) rfl ?_
      refine hA_callV (as := []) (rest := []) (B' := (0, 0)) (zs_invV (T := TX12) em230_266 zl_151 rfl wd_1547 wd_1549 wd_56 ((congrFun xo_12 221).trans rfl) xm_144) rfl ⟨_, rfl⟩ (Nat.le_of_ble_eq_true rfl) rfl ⟨Nat.zero_le _, Nat.zero_le _⟩ (zpre_of zh_151 ⟨(by show 2 ≤ d; omega), ⟨_, _, rfl, rfl, rfl⟩, (hF_cons (lo := 0) (hi := 400) ⟨by rw [zf_ne (by decide), zf_arr _ _ _ _ _ (by decide)]; omega, by rw [zf_ne (by decide), zf_arr _ _ _ _ _ (by decide)]; omega⟩ (hF_cons (lo := 0) (hi := 2147483647) ⟨by rw [zf_ne (by decide), zf_arr _ _ _ _ _ (by decide)]; omega, by rw [zf_ne (by decide), zf_arr _ _ _ _ _ (by decide)]; exact an_hi _⟩ hF_nil)), fun h => by cases h⟩) (fun r266 I266 hp266 => ?_)
      replace hp266 := zpost_of zh_151 hp266
      rcases zq_151 hp266 with ⟨v266_12, v266_13, rfl, rfl, hv266_12e, hv266_12l, hv266_12h, hv266_13e, hv266_13l, hv266_13h⟩ | ⟨v266_12', v266_13', rfl, rfl, hv266_12'e, hv266_12'l, hv266_12'h, hv266_13'l, hv266_13'h⟩ | ⟨v266_12'', rfl, rfl, hv266_12''e, hv266_12''l, hv266_12''h⟩
      · rw [zf_ne (by decide), zf_arr _ _ _ _ _ (by decide)] at hv266_12e
        rw [zf_ne (by decide), zf_arr _ _ _ _ _ (by decide)] at hv266_13e
        refine hA_goto (zs_goto em230_269 (t := 12) (by decide)) ?_
        have hmu := xpmu_d (J := IJ) (J' := (zupd (zupd (zupd (zupd I234 (zid 104 z242.toInt.toNat) z253) 18 z261) 12 v266_12) 13 v266_13)) (by rw [zf_ne (by decide), zf_same]; omega) (by rw [zf_ne (by decide), zf_same]; omega) (by omega) (fun h => by rw [zf_same] at h; rw [zf_ne (by decide), zf_same]; omega)
        exact (ih _ (by omega)).1 _ bs mo hbs (xpA_sign (x := z253.toInt) hA234 p1 p2 p3 (by first | (have := p5 (by omega); omega) | omega) (eFr_f (eFr_t (eFr_o (a := 18) (eFr_w (by omega) hE234) (by omega)) (by rw [zf_ne (by decide), zf_arr _ _ _ _ _ (by decide)]; omega) (by omega)) (by omega) (by rw [zf_ne (by decide), zf_ne (by decide), zf_arr _ _ _ _ _ (by decide)]; omega)) (by omega) (by rw [zf_ne (by decide), zf_ne (by decide), zf_same]; omega) (by first | (rw [zf_ne (by decide), zf_ne (by decide), zf_ne (by decide), zf_arr _ _ _ _ _ (by decide)]; done) | (rw [zf_ne (by decide), zf_ne (by decide), zf_ne (by decide), zf_arr _ _ _ _ _ (by decide)]; omega)) (by first | (rw [zf_ne (by decide), zf_ne (by decide), zf_ne (by decide), zf_arr _ _ _ _ _ (by decide)]; done) | (rw [zf_ne (by decide), zf_ne (by decide), zf_ne (by decide), zf_arr _ _ _ _ _ (by decide)]; omega)) (by rw [← hz242, zv_fld _ _ _ _ _ (by decide), zv_fld _ _ _ _ _ (by decide), zv_fld _ _ _ _ _ (by decide), zv_at]) (fun i hi => by rw [zv_fld _ _ _ _ _ (by decide), zv_fld _ _ _ _ _ (by decide), zv_fld _ _ _ _ _ (by decide), zv_ne _ _ _ _ _ _ (by omega) (by omega) (Or.inr ⟨by omega, by omega, by omega⟩)]) (fun i hi => ⟨((zupd_fr (by unfold zid; omega)).trans ((zupd_fr (by unfold zid; omega)).trans ((zupd_fr (by unfold zid; omega)).trans ((zupd_fr (by unfold zid; omega)).trans rfl)))), ((zupd_fr (by unfold zid; omega)).trans ((zupd_fr (by unfold zid; omega)).trans ((zupd_fr (by unfold zid; omega)).trans ((zupd_fr (by unfold zid; omega)).trans rfl))))⟩) (by rw [zf_ne (by decide), zf_same]; omega) (fun h => by rw [zf_same] at h; rw [zf_ne (by decide), zf_same]; omega) (by omega) (by omega)) (by omega) rfl
      · rw [zf_ne (by decide), zf_arr _ _ _ _ _ (by decide)] at hv266_12'e
        refine hA_goto (zs_goto em230_269 (t := 12) (by decide)) ?_
        have hmu := xpmu_d (J := IJ) (J' := (zupd (zupd (zupd (zupd I234 (zid 104 z242.toInt.toNat) z253) 18 z261) 12 v266_12') 13 v266_13')) (by rw [zf_ne (by decide), zf_same]; omega) (by rw [zf_ne (by decide), zf_same]; omega) (by omega) (fun h => by rw [zf_same] at h; rw [zf_ne (by decide), zf_same]; omega)
        exact (ih _ (by omega)).1 _ bs mo hbs (xpA_sign (x := z253.toInt) hA234 p1 p2 p3 (by first | (have := p5 (by omega); omega) | omega) (eFr_f (eFr_t (eFr_o (a := 18) (eFr_w (by omega) hE234) (by omega)) (by rw [zf_ne (by decide), zf_arr _ _ _ _ _ (by decide)]; omega) (by omega)) (by omega) (by rw [zf_ne (by decide), zf_ne (by decide), zf_arr _ _ _ _ _ (by decide)]; omega)) (by omega) (by rw [zf_ne (by decide), zf_ne (by decide), zf_same]; omega) (by first | (rw [zf_ne (by decide), zf_ne (by decide), zf_ne (by decide), zf_arr _ _ _ _ _ (by decide)]; done) | (rw [zf_ne (by decide), zf_ne (by decide), zf_ne (by decide), zf_arr _ _ _ _ _ (by decide)]; omega)) (by first | (rw [zf_ne (by decide), zf_ne (by decide), zf_ne (by decide), zf_arr _ _ _ _ _ (by decide)]; done) | (rw [zf_ne (by decide), zf_ne (by decide), zf_ne (by decide), zf_arr _ _ _ _ _ (by decide)]; omega)) (by rw [← hz242, zv_fld _ _ _ _ _ (by decide), zv_fld _ _ _ _ _ (by decide), zv_fld _ _ _ _ _ (by decide), zv_at]) (fun i hi => by rw [zv_fld _ _ _ _ _ (by decide), zv_fld _ _ _ _ _ (by decide), zv_fld _ _ _ _ _ (by decide), zv_ne _ _ _ _ _ _ (by omega) (by omega) (Or.inr ⟨by omega, by omega, by omega⟩)]) (fun i hi => ⟨((zupd_fr (by unfold zid; omega)).trans ((zupd_fr (by unfold zid; omega)).trans ((zupd_fr (by unfold zid; omega)).trans ((zupd_fr (by unfold zid; omega)).trans rfl)))), ((zupd_fr (by unfold zid; omega)).trans ((zupd_fr (by unfold zid; omega)).trans ((zupd_fr (by unfold zid; omega)).trans ((zupd_fr (by unfold zid; omega)).trans rfl))))⟩) (by rw [zf_ne (by decide), zf_same]; omega) (fun h => by rw [zf_same] at h; rw [zf_ne (by decide), zf_same]; omega) (by omega) (by omega)) (by omega) rfl
      · rw [zf_ne (by decide), zf_arr _ _ _ _ _ (by decide)] at hv266_12''e
        refine hA_goto (zs_goto em230_269 (t := 12) (by decide)) ?_
        have hmu := xpmu_d (J := IJ) (J' := (zupd (zupd (zupd I234 (zid 104 z242.toInt.toNat) z253) 18 z261) 12 v266_12'')) (by rw [zf_same]; omega) (by rw [zf_same]; omega) (by omega) (fun h => by rw [zf_ne (by decide), zf_ne (by decide), zf_arr _ _ _ _ _ (by decide)] at h; rw [zf_same]; omega)
        exact (ih _ (by omega)).1 _ bs mo hbs (xpA_sign (x := z253.toInt) hA234 p1 p2 p3 (by first | (have := p5 (by omega); omega) | omega) (eFr_t (eFr_o (a := 18) (eFr_w (by omega) hE234) (by omega)) (by rw [zf_ne (by decide), zf_arr _ _ _ _ _ (by decide)]; omega) (by omega)) (by omega) (by rw [zf_ne (by decide), zf_same]; omega) (by first | (rw [zf_ne (by decide), zf_ne (by decide), zf_arr _ _ _ _ _ (by decide)]; done) | (rw [zf_ne (by decide), zf_ne (by decide), zf_arr _ _ _ _ _ (by decide)]; omega)) (by first | (rw [zf_ne (by decide), zf_ne (by decide), zf_arr _ _ _ _ _ (by decide)]; done) | (rw [zf_ne (by decide), zf_ne (by decide), zf_arr _ _ _ _ _ (by decide)]; omega)) (by rw [← hz242, zv_fld _ _ _ _ _ (by decide), zv_fld _ _ _ _ _ (by decide), zv_at]) (fun i hi => by rw [zv_fld _ _ _ _ _ (by decide), zv_fld _ _ _ _ _ (by decide), zv_ne _ _ _ _ _ _ (by omega) (by omega) (Or.inr ⟨by omega, by omega, by omega⟩)]) (fun i hi => ⟨((zupd_fr (by unfold zid; omega)).trans ((zupd_fr (by unfold zid; omega)).trans ((zupd_fr (by unfold zid; omega)).trans rfl))), ((zupd_fr (by unfold zid; omega)).trans ((zupd_fr (by unfold zid; omega)).trans ((zupd_fr (by unfold zid; omega)).trans rfl)))⟩) (by rw [zf_same]; omega) (fun h => by rw [zf_ne (by decide), zf_ne (by decide), zf_arr _ _ _ _ _ (by decide)] at h; rw [zf_same]; omega) (by omega) (by omega)) (by omega) rfl
    · exfalso
      omega
  · refine hA_if (zs_ifne em230_217 (t := 229) (by decide)) (fun (c217' : ¬ z214.toInt = 0) => ?_) (fun (c217' : ¬ ¬ z214.toInt = 0) => ?_)
    · exfalso
      omega
    · refine hA_aload (zs_aload_n em230_220) rfl ?_
      refine hA_const (k := 15) (zs_bipush (v := 15) em230_221 (by decide +kernel)) (by decide +kernel) (fun z221 hz221 => ?_)
      refine hA_callV (as := [.inl z221]) (rest := [.inr (.inl (some 75))]) (B' := (0, 0)) (zs_invV (T := TX12) em230_223 zl_285 rfl wd_1531 wd_1533 wd_52 ((congrFun xo_12 218).trans rfl) xm_149) rfl ⟨_, rfl⟩ (Nat.le_of_ble_eq_true rfl) rfl ⟨Nat.zero_le _, Nat.zero_le _⟩ (hpre_of rfl (show hpr_285 d [.inr (.inl (some 75)), .inl z221] IJ from ⟨by show 1 ≤ d; omega, z221, rfl, ⟨by omega, by omega⟩⟩)) (fun r223 I223 hp223 => ?_)
      replace hp223 : hpo_285 _ _ _ _ := hpost_of rfl hp223
      obtain ⟨z223, rfl, rfl, ⟨hz223, hz223f, hz223k⟩ | ⟨hz223, hz223k⟩⟩ := hp223 z221 rfl
      · refine hA_if (zs_ifeq em230_226 (t := 233) (by decide)) (fun (c226 : z223.toInt = 0) => ?_) (fun (c226 : ¬ z223.toInt = 0) => ?_)
        · exfalso
          omega
        · refine hA_const (k := 1) (zs_iconst (v := 1) em230_229 (by decide +kernel)) (by decide +kernel) (fun z229' hz229' => ?_)
          refine hA_goto (zs_goto em230_230 (t := 234) (by decide)) ?_
          have hAx := hAJ
          obtain ⟨-, nn, oo, kk, g1, g2, g3, g4, g5, g6, g7, g8⟩ := id hAx
          obtain ⟨⟨b18a, b18b⟩, ⟨b14a, b14b⟩, ⟨b12a, b12b⟩, b13, b17, bR, bF⟩ := xpA_b hAx
          refine hA_callV (as := [.inl z229']) (rest := []) (B' := (0, 0)) (zs_invV (T := TX12) em230_234 zl_261 rfl wd_1609 wd_1611 wd_70 ((congrFun xo_12 316).trans rfl) xm_229) rfl ⟨_, rfl⟩ (Nat.le_of_ble_eq_true rfl) rfl ⟨Nat.zero_le _, Nat.zero_le _⟩ (hpre_of rfl (show hpr_261 d [.inr (.inl (some 75)), .inl z229'] IJ from ⟨by show 2 ≤ d; omega, z229', rfl, ⟨⟨by omega, by omega⟩, zf I 17, nn, oo, kk, ⟨g1, g5, by omega, b17, g6⟩, by omega, by omega⟩⟩)) (fun r234 I234 hp234 => ?_)
          replace hp234 : hpo_261 _ _ _ _ := hpost_of rfl hp234
          replace hp234 := hp234 z229' rfl
          obtain ⟨rfl, hC, hAll⟩ := hp234
          obtain ⟨hA234, n1, o1, k1, p1, p2, p3, p4, p5⟩ := xpA_out (s := z229'.toInt) hAx hC hAll (by omega)
          have hE234 := hA234.1
          obtain ⟨⟨d18a, d18b⟩, ⟨d14a, d14b⟩, ⟨d12a, d12b⟩, d13, d17, dR, dF⟩ := xpA_b hA234
          have e12 : zf I234 12 = zf IJ 12 := by unfold zf; rw [hC.1 12 (by decide) (by decide) (by decide)]
          have e13 : zf I234 13 = zf IJ 13 := by unfold zf; rw [hC.1 13 (by decide) (by decide) (by decide)]
          have e14 : zf I234 14 = zf IJ 14 := by unfold zf; rw [hC.1 14 (by decide) (by decide) (by decide)]
          have e78 : zv I234 78 (zf I234 12) = zv IJ 78 (zf IJ 12) := by unfold zv; rw [show zf I234 12 = zf IJ 12 by unfold zf; rw [hC.1 12 (by decide) (by decide) (by decide)], hC.2.1 78 _ (by omega) (by decide) (by decide)]
          refine hA_aload (zs_aload_n em230_237) rfl ?_
          refine hA_getf2 (r := 104) (zs_getf (T := TX12) (M := 70) (ci := 12) (j := 54) em230_238 rfl inX12 (by decide) wd_1326 ((congrFun xo_12 104).trans rfl)) ⟨_, rfl, rfl⟩ ?_
          refine hA_aload (zs_aload_n em230_241) rfl ?_
          refine hA_getf0 (id := 18) (zs_getf (T := TX12) (M := 70) (ci := 12) (j := 55) em230_242 rfl inX12 (by decide) wd_1327 ((congrFun xo_12 307).trans rfl)) ⟨_, rfl, rfl⟩ (fun z242' hz242' => ?_)
          refine hA_aload (zs_aload_n em230_245) rfl ?_
          refine hA_getf2 (r := 78) (zs_getf (T := TX12) (M := 70) (ci := 12) (j := 19) em230_246 rfl inX12 (by decide) wd_1286 ((congrFun xo_12 20).trans rfl)) ⟨_, rfl, rfl⟩ ?_
          refine hA_aload (zs_aload_n em230_249) rfl ?_
          refine hA_getf0 (id := 12) (zs_getf (T := TX12) (M := 70) (ci := 12) (j := 25) em230_250 rfl inX12 (by decide) wd_1292 ((congrFun xo_12 203).trans rfl)) ⟨_, rfl, rfl⟩ (fun z250' hz250' => ?_)
          refine hA_iald (kd := 78) (len := 403) (zs_iald em230_253) ⟨rfl, rfl, rfl⟩ (by omega) (by show _ < ((403 : Nat) : Int); omega) (fun z253' hz253' => ?_)
          rw [hz250'] at hz253'
          refine hA_iast (kd := 104) (len := 64) (zs_iast zInj0 em230_254) ⟨rfl, rfl, rfl⟩ (by omega) (by show _ < ((64 : Nat) : Int); omega) ?_
          refine hA_aload (zs_aload_n em230_255) rfl ?_
          refine hA_dup (zs_dup em230_256) rfl ?_
          refine hA_getf0 (id := 18) (zs_getf (T := TX12) (M := 70) (ci := 12) (j := 55) em230_257 rfl inX12 (by decide) wd_1327 ((congrFun xo_12 307).trans rfl)) ⟨_, rfl, rfl⟩ (fun z257' hz257' => ?_)
          rw [zf_arr _ _ _ _ _ (by decide)] at hz257'
          refine hA_const (k := 1) (zs_iconst (v := 1) em230_260 (by decide +kernel)) (by decide +kernel) (fun z260' hz260' => ?_)
          refine hA_add (zs_iadd em230_261) (by omega) (by omega) (fun z261' hz261' => ?_)
          refine hA_puti0 (id := 18) (zs_puti zInj0 (T := TX12) (M := 70) (ty := tyX12) (ci := 12) (j := 55) (kd := 0) em230_262 rfl inX12 tyX12_ok nmX12 (by decide) wd_1327 (Or.inl ⟨rfl, rfl⟩) rfl ((congrFun xo_12 307).trans rfl)) ⟨_, rfl, rfl⟩ (fun h => by cases h) ?_
          refine hA_aload (zs_aload_n em230_265) rfl ?_
          refine hA_callV (as := []) (rest := []) (B' := (0, 0)) (zs_invV (T := TX12) em230_266 zl_151 rfl wd_1547 wd_1549 wd_56 ((congrFun xo_12 221).trans rfl) xm_144) rfl ⟨_, rfl⟩ (Nat.le_of_ble_eq_true rfl) rfl ⟨Nat.zero_le _, Nat.zero_le _⟩ (zpre_of zh_151 ⟨(by show 2 ≤ d; omega), ⟨_, _, rfl, rfl, rfl⟩, (hF_cons (lo := 0) (hi := 400) ⟨by rw [zf_ne (by decide), zf_arr _ _ _ _ _ (by decide)]; omega, by rw [zf_ne (by decide), zf_arr _ _ _ _ _ (by decide)]; omega⟩ (hF_cons (lo := 0) (hi := 2147483647) ⟨by rw [zf_ne (by decide), zf_arr _ _ _ _ _ (by decide)]; omega, by rw [zf_ne (by decide), zf_arr _ _ _ _ _ (by decide)]; exact an_hi _⟩ hF_nil)), fun h => by cases h⟩) (fun r266 I266 hp266 => ?_)
          replace hp266 := zpost_of zh_151 hp266
          rcases zq_151 hp266 with ⟨v266_12_3, v266_13'', rfl, rfl, hv266_12_3e, hv266_12_3l, hv266_12_3h, hv266_13''e, hv266_13''l, hv266_13''h⟩ | ⟨v266_12_4, v266_13_3, rfl, rfl, hv266_12_4e, hv266_12_4l, hv266_12_4h, hv266_13_3l, hv266_13_3h⟩ | ⟨v266_12_5, rfl, rfl, hv266_12_5e, hv266_12_5l, hv266_12_5h⟩
          · rw [zf_ne (by decide), zf_arr _ _ _ _ _ (by decide)] at hv266_12_3e
            rw [zf_ne (by decide), zf_arr _ _ _ _ _ (by decide)] at hv266_13''e
            refine hA_goto (zs_goto em230_269 (t := 12) (by decide)) ?_
            have hmu := xpmu_d (J := IJ) (J' := (zupd (zupd (zupd (zupd I234 (zid 104 z242'.toInt.toNat) z253') 18 z261') 12 v266_12_3) 13 v266_13'')) (by rw [zf_ne (by decide), zf_same]; omega) (by rw [zf_ne (by decide), zf_same]; omega) (by omega) (fun h => by rw [zf_same] at h; rw [zf_ne (by decide), zf_same]; omega)
            exact (ih _ (by omega)).1 _ bs mo hbs (xpA_sign (x := z253'.toInt) hA234 p1 p2 p3 (by first | (have := p5 (by omega); omega) | omega) (eFr_f (eFr_t (eFr_o (a := 18) (eFr_w (by omega) hE234) (by omega)) (by rw [zf_ne (by decide), zf_arr _ _ _ _ _ (by decide)]; omega) (by omega)) (by omega) (by rw [zf_ne (by decide), zf_ne (by decide), zf_arr _ _ _ _ _ (by decide)]; omega)) (by omega) (by rw [zf_ne (by decide), zf_ne (by decide), zf_same]; omega) (by first | (rw [zf_ne (by decide), zf_ne (by decide), zf_ne (by decide), zf_arr _ _ _ _ _ (by decide)]; done) | (rw [zf_ne (by decide), zf_ne (by decide), zf_ne (by decide), zf_arr _ _ _ _ _ (by decide)]; omega)) (by first | (rw [zf_ne (by decide), zf_ne (by decide), zf_ne (by decide), zf_arr _ _ _ _ _ (by decide)]; done) | (rw [zf_ne (by decide), zf_ne (by decide), zf_ne (by decide), zf_arr _ _ _ _ _ (by decide)]; omega)) (by rw [← hz242', zv_fld _ _ _ _ _ (by decide), zv_fld _ _ _ _ _ (by decide), zv_fld _ _ _ _ _ (by decide), zv_at]) (fun i hi => by rw [zv_fld _ _ _ _ _ (by decide), zv_fld _ _ _ _ _ (by decide), zv_fld _ _ _ _ _ (by decide), zv_ne _ _ _ _ _ _ (by omega) (by omega) (Or.inr ⟨by omega, by omega, by omega⟩)]) (fun i hi => ⟨((zupd_fr (by unfold zid; omega)).trans ((zupd_fr (by unfold zid; omega)).trans ((zupd_fr (by unfold zid; omega)).trans ((zupd_fr (by unfold zid; omega)).trans rfl)))), ((zupd_fr (by unfold zid; omega)).trans ((zupd_fr (by unfold zid; omega)).trans ((zupd_fr (by unfold zid; omega)).trans ((zupd_fr (by unfold zid; omega)).trans rfl))))⟩) (by rw [zf_ne (by decide), zf_same]; omega) (fun h => by rw [zf_same] at h; rw [zf_ne (by decide), zf_same]; omega) (by omega) (by omega)) (by omega) rfl
          · rw [zf_ne (by decide), zf_arr _ _ _ _ _ (by decide)] at hv266_12_4e
            refine hA_goto (zs_goto em230_269 (t := 12) (by decide)) ?_
            have hmu := xpmu_d (J := IJ) (J' := (zupd (zupd (zupd (zupd I234 (zid 104 z242'.toInt.toNat) z253') 18 z261') 12 v266_12_4) 13 v266_13_3)) (by rw [zf_ne (by decide), zf_same]; omega) (by rw [zf_ne (by decide), zf_same]; omega) (by omega) (fun h => by rw [zf_same] at h; rw [zf_ne (by decide), zf_same]; omega)
            exact (ih _ (by omega)).1 _ bs mo hbs (xpA_sign (x := z253'.toInt) hA234 p1 p2 p3 (by first | (have := p5 (by omega); omega) | omega) (eFr_f (eFr_t (eFr_o (a := 18) (eFr_w (by omega) hE234) (by omega)) (by rw [zf_ne (by decide), zf_arr _ _ _ _ _ (by decide)]; omega) (by omega)) (by omega) (by rw [zf_ne (by decide), zf_ne (by decide), zf_arr _ _ _ _ _ (by decide)]; omega)) (by omega) (by rw [zf_ne (by decide), zf_ne (by decide), zf_same]; omega) (by first | (rw [zf_ne (by decide), zf_ne (by decide), zf_ne (by decide), zf_arr _ _ _ _ _ (by decide)]; done) | (rw [zf_ne (by decide), zf_ne (by decide), zf_ne (by decide), zf_arr _ _ _ _ _ (by decide)]; omega)) (by first | (rw [zf_ne (by decide), zf_ne (by decide), zf_ne (by decide), zf_arr _ _ _ _ _ (by decide)]; done) | (rw [zf_ne (by decide), zf_ne (by decide), zf_ne (by decide), zf_arr _ _ _ _ _ (by decide)]; omega)) (by rw [← hz242', zv_fld _ _ _ _ _ (by decide), zv_fld _ _ _ _ _ (by decide), zv_fld _ _ _ _ _ (by decide), zv_at]) (fun i hi => by rw [zv_fld _ _ _ _ _ (by decide), zv_fld _ _ _ _ _ (by decide), zv_fld _ _ _ _ _ (by decide), zv_ne _ _ _ _ _ _ (by omega) (by omega) (Or.inr ⟨by omega, by omega, by omega⟩)]) (fun i hi => ⟨((zupd_fr (by unfold zid; omega)).trans ((zupd_fr (by unfold zid; omega)).trans ((zupd_fr (by unfold zid; omega)).trans ((zupd_fr (by unfold zid; omega)).trans rfl)))), ((zupd_fr (by unfold zid; omega)).trans ((zupd_fr (by unfold zid; omega)).trans ((zupd_fr (by unfold zid; omega)).trans ((zupd_fr (by unfold zid; omega)).trans rfl))))⟩) (by rw [zf_ne (by decide), zf_same]; omega) (fun h => by rw [zf_same] at h; rw [zf_ne (by decide), zf_same]; omega) (by omega) (by omega)) (by omega) rfl
          · rw [zf_ne (by decide), zf_arr _ _ _ _ _ (by decide)] at hv266_12_5e
            refine hA_goto (zs_goto em230_269 (t := 12) (by decide)) ?_
            have hmu := xpmu_d (J := IJ) (J' := (zupd (zupd (zupd I234 (zid 104 z242'.toInt.toNat) z253') 18 z261') 12 v266_12_5)) (by rw [zf_same]; omega) (by rw [zf_same]; omega) (by omega) (fun h => by rw [zf_ne (by decide), zf_ne (by decide), zf_arr _ _ _ _ _ (by decide)] at h; rw [zf_same]; omega)
            exact (ih _ (by omega)).1 _ bs mo hbs (xpA_sign (x := z253'.toInt) hA234 p1 p2 p3 (by first | (have := p5 (by omega); omega) | omega) (eFr_t (eFr_o (a := 18) (eFr_w (by omega) hE234) (by omega)) (by rw [zf_ne (by decide), zf_arr _ _ _ _ _ (by decide)]; omega) (by omega)) (by omega) (by rw [zf_ne (by decide), zf_same]; omega) (by first | (rw [zf_ne (by decide), zf_ne (by decide), zf_arr _ _ _ _ _ (by decide)]; done) | (rw [zf_ne (by decide), zf_ne (by decide), zf_arr _ _ _ _ _ (by decide)]; omega)) (by first | (rw [zf_ne (by decide), zf_ne (by decide), zf_arr _ _ _ _ _ (by decide)]; done) | (rw [zf_ne (by decide), zf_ne (by decide), zf_arr _ _ _ _ _ (by decide)]; omega)) (by rw [← hz242', zv_fld _ _ _ _ _ (by decide), zv_fld _ _ _ _ _ (by decide), zv_at]) (fun i hi => by rw [zv_fld _ _ _ _ _ (by decide), zv_fld _ _ _ _ _ (by decide), zv_ne _ _ _ _ _ _ (by omega) (by omega) (Or.inr ⟨by omega, by omega, by omega⟩)]) (fun i hi => ⟨((zupd_fr (by unfold zid; omega)).trans ((zupd_fr (by unfold zid; omega)).trans ((zupd_fr (by unfold zid; omega)).trans rfl))), ((zupd_fr (by unfold zid; omega)).trans ((zupd_fr (by unfold zid; omega)).trans ((zupd_fr (by unfold zid; omega)).trans rfl)))⟩) (by rw [zf_same]; omega) (fun h => by rw [zf_ne (by decide), zf_ne (by decide), zf_arr _ _ _ _ _ (by decide)] at h; rw [zf_same]; omega) (by omega) (by omega)) (by omega) rfl
      · refine hA_if (zs_ifeq em230_226 (t := 233) (by decide)) (fun (c226' : z223.toInt = 0) => ?_) (fun (c226' : ¬ z223.toInt = 0) => ?_)
        · refine hA_const (k := 0) (zs_iconst (v := 0) em230_233 (by decide +kernel)) (by decide +kernel) (fun z233 hz233 => ?_)
          have hAx := hAJ
          obtain ⟨-, nn, oo, kk, g1, g2, g3, g4, g5, g6, g7, g8⟩ := id hAx
          obtain ⟨⟨b18a, b18b⟩, ⟨b14a, b14b⟩, ⟨b12a, b12b⟩, b13, b17, bR, bF⟩ := xpA_b hAx
          refine hA_callV (as := [.inl z233]) (rest := []) (B' := (0, 0)) (zs_invV (T := TX12) em230_234 zl_261 rfl wd_1609 wd_1611 wd_70 ((congrFun xo_12 316).trans rfl) xm_229) rfl ⟨_, rfl⟩ (Nat.le_of_ble_eq_true rfl) rfl ⟨Nat.zero_le _, Nat.zero_le _⟩ (hpre_of rfl (show hpr_261 d [.inr (.inl (some 75)), .inl z233] IJ from ⟨by show 2 ≤ d; omega, z233, rfl, ⟨⟨by omega, by omega⟩, zf I 17, nn, oo, kk, ⟨g1, g5, by omega, b17, g6⟩, by omega, by omega⟩⟩)) (fun r234 I234 hp234 => ?_)
          replace hp234 : hpo_261 _ _ _ _ := hpost_of rfl hp234
          replace hp234 := hp234 z233 rfl
          obtain ⟨rfl, hC, hAll⟩ := hp234
          obtain ⟨hA234, n1, o1, k1, p1, p2, p3, p4, p5⟩ := xpA_out (s := z233.toInt) hAx hC hAll (by omega)
          have hE234 := hA234.1
          obtain ⟨⟨d18a, d18b⟩, ⟨d14a, d14b⟩, ⟨d12a, d12b⟩, d13, d17, dR, dF⟩ := xpA_b hA234
          have e12 : zf I234 12 = zf IJ 12 := by unfold zf; rw [hC.1 12 (by decide) (by decide) (by decide)]
          have e13 : zf I234 13 = zf IJ 13 := by unfold zf; rw [hC.1 13 (by decide) (by decide) (by decide)]
          have e14 : zf I234 14 = zf IJ 14 := by unfold zf; rw [hC.1 14 (by decide) (by decide) (by decide)]
          have e78 : zv I234 78 (zf I234 12) = zv IJ 78 (zf IJ 12) := by unfold zv; rw [show zf I234 12 = zf IJ 12 by unfold zf; rw [hC.1 12 (by decide) (by decide) (by decide)], hC.2.1 78 _ (by omega) (by decide) (by decide)]
          refine hA_aload (zs_aload_n em230_237) rfl ?_
          refine hA_getf2 (r := 104) (zs_getf (T := TX12) (M := 70) (ci := 12) (j := 54) em230_238 rfl inX12 (by decide) wd_1326 ((congrFun xo_12 104).trans rfl)) ⟨_, rfl, rfl⟩ ?_
          refine hA_aload (zs_aload_n em230_241) rfl ?_
          refine hA_getf0 (id := 18) (zs_getf (T := TX12) (M := 70) (ci := 12) (j := 55) em230_242 rfl inX12 (by decide) wd_1327 ((congrFun xo_12 307).trans rfl)) ⟨_, rfl, rfl⟩ (fun z242'' hz242'' => ?_)
          refine hA_aload (zs_aload_n em230_245) rfl ?_
          refine hA_getf2 (r := 78) (zs_getf (T := TX12) (M := 70) (ci := 12) (j := 19) em230_246 rfl inX12 (by decide) wd_1286 ((congrFun xo_12 20).trans rfl)) ⟨_, rfl, rfl⟩ ?_
          refine hA_aload (zs_aload_n em230_249) rfl ?_
          refine hA_getf0 (id := 12) (zs_getf (T := TX12) (M := 70) (ci := 12) (j := 25) em230_250 rfl inX12 (by decide) wd_1292 ((congrFun xo_12 203).trans rfl)) ⟨_, rfl, rfl⟩ (fun z250'' hz250'' => ?_)
          refine hA_iald (kd := 78) (len := 403) (zs_iald em230_253) ⟨rfl, rfl, rfl⟩ (by omega) (by show _ < ((403 : Nat) : Int); omega) (fun z253'' hz253'' => ?_)
          rw [hz250''] at hz253''
          refine hA_iast (kd := 104) (len := 64) (zs_iast zInj0 em230_254) ⟨rfl, rfl, rfl⟩ (by omega) (by show _ < ((64 : Nat) : Int); omega) ?_
          refine hA_aload (zs_aload_n em230_255) rfl ?_
          refine hA_dup (zs_dup em230_256) rfl ?_
          refine hA_getf0 (id := 18) (zs_getf (T := TX12) (M := 70) (ci := 12) (j := 55) em230_257 rfl inX12 (by decide) wd_1327 ((congrFun xo_12 307).trans rfl)) ⟨_, rfl, rfl⟩ (fun z257'' hz257'' => ?_)
          rw [zf_arr _ _ _ _ _ (by decide)] at hz257''
          refine hA_const (k := 1) (zs_iconst (v := 1) em230_260 (by decide +kernel)) (by decide +kernel) (fun z260'' hz260'' => ?_)
          refine hA_add (zs_iadd em230_261) (by omega) (by omega) (fun z261'' hz261'' => ?_)
          refine hA_puti0 (id := 18) (zs_puti zInj0 (T := TX12) (M := 70) (ty := tyX12) (ci := 12) (j := 55) (kd := 0) em230_262 rfl inX12 tyX12_ok nmX12 (by decide) wd_1327 (Or.inl ⟨rfl, rfl⟩) rfl ((congrFun xo_12 307).trans rfl)) ⟨_, rfl, rfl⟩ (fun h => by cases h) ?_
          refine hA_aload (zs_aload_n em230_265) rfl ?_
          refine hA_callV (as := []) (rest := []) (B' := (0, 0)) (zs_invV (T := TX12) em230_266 zl_151 rfl wd_1547 wd_1549 wd_56 ((congrFun xo_12 221).trans rfl) xm_144) rfl ⟨_, rfl⟩ (Nat.le_of_ble_eq_true rfl) rfl ⟨Nat.zero_le _, Nat.zero_le _⟩ (zpre_of zh_151 ⟨(by show 2 ≤ d; omega), ⟨_, _, rfl, rfl, rfl⟩, (hF_cons (lo := 0) (hi := 400) ⟨by rw [zf_ne (by decide), zf_arr _ _ _ _ _ (by decide)]; omega, by rw [zf_ne (by decide), zf_arr _ _ _ _ _ (by decide)]; omega⟩ (hF_cons (lo := 0) (hi := 2147483647) ⟨by rw [zf_ne (by decide), zf_arr _ _ _ _ _ (by decide)]; omega, by rw [zf_ne (by decide), zf_arr _ _ _ _ _ (by decide)]; exact an_hi _⟩ hF_nil)), fun h => by cases h⟩) (fun r266 I266 hp266 => ?_)
          replace hp266 := zpost_of zh_151 hp266
          rcases zq_151 hp266 with ⟨v266_12_6, v266_13_4, rfl, rfl, hv266_12_6e, hv266_12_6l, hv266_12_6h, hv266_13_4e, hv266_13_4l, hv266_13_4h⟩ | ⟨v266_12_7, v266_13_5, rfl, rfl, hv266_12_7e, hv266_12_7l, hv266_12_7h, hv266_13_5l, hv266_13_5h⟩ | ⟨v266_12_8, rfl, rfl, hv266_12_8e, hv266_12_8l, hv266_12_8h⟩
          · rw [zf_ne (by decide), zf_arr _ _ _ _ _ (by decide)] at hv266_12_6e
            rw [zf_ne (by decide), zf_arr _ _ _ _ _ (by decide)] at hv266_13_4e
            refine hA_goto (zs_goto em230_269 (t := 12) (by decide)) ?_
            have hmu := xpmu_d (J := IJ) (J' := (zupd (zupd (zupd (zupd I234 (zid 104 z242''.toInt.toNat) z253'') 18 z261'') 12 v266_12_6) 13 v266_13_4)) (by rw [zf_ne (by decide), zf_same]; omega) (by rw [zf_ne (by decide), zf_same]; omega) (by omega) (fun h => by rw [zf_same] at h; rw [zf_ne (by decide), zf_same]; omega)
            exact (ih _ (by omega)).1 _ bs mo hbs (xpA_sign (x := z253''.toInt) hA234 p1 p2 p3 (by first | (have := p5 (by omega); omega) | omega) (eFr_f (eFr_t (eFr_o (a := 18) (eFr_w (by omega) hE234) (by omega)) (by rw [zf_ne (by decide), zf_arr _ _ _ _ _ (by decide)]; omega) (by omega)) (by omega) (by rw [zf_ne (by decide), zf_ne (by decide), zf_arr _ _ _ _ _ (by decide)]; omega)) (by omega) (by rw [zf_ne (by decide), zf_ne (by decide), zf_same]; omega) (by first | (rw [zf_ne (by decide), zf_ne (by decide), zf_ne (by decide), zf_arr _ _ _ _ _ (by decide)]; done) | (rw [zf_ne (by decide), zf_ne (by decide), zf_ne (by decide), zf_arr _ _ _ _ _ (by decide)]; omega)) (by first | (rw [zf_ne (by decide), zf_ne (by decide), zf_ne (by decide), zf_arr _ _ _ _ _ (by decide)]; done) | (rw [zf_ne (by decide), zf_ne (by decide), zf_ne (by decide), zf_arr _ _ _ _ _ (by decide)]; omega)) (by rw [← hz242'', zv_fld _ _ _ _ _ (by decide), zv_fld _ _ _ _ _ (by decide), zv_fld _ _ _ _ _ (by decide), zv_at]) (fun i hi => by rw [zv_fld _ _ _ _ _ (by decide), zv_fld _ _ _ _ _ (by decide), zv_fld _ _ _ _ _ (by decide), zv_ne _ _ _ _ _ _ (by omega) (by omega) (Or.inr ⟨by omega, by omega, by omega⟩)]) (fun i hi => ⟨((zupd_fr (by unfold zid; omega)).trans ((zupd_fr (by unfold zid; omega)).trans ((zupd_fr (by unfold zid; omega)).trans ((zupd_fr (by unfold zid; omega)).trans rfl)))), ((zupd_fr (by unfold zid; omega)).trans ((zupd_fr (by unfold zid; omega)).trans ((zupd_fr (by unfold zid; omega)).trans ((zupd_fr (by unfold zid; omega)).trans rfl))))⟩) (by rw [zf_ne (by decide), zf_same]; omega) (fun h => by rw [zf_same] at h; rw [zf_ne (by decide), zf_same]; omega) (by omega) (by omega)) (by omega) rfl
          · rw [zf_ne (by decide), zf_arr _ _ _ _ _ (by decide)] at hv266_12_7e
            refine hA_goto (zs_goto em230_269 (t := 12) (by decide)) ?_
            have hmu := xpmu_d (J := IJ) (J' := (zupd (zupd (zupd (zupd I234 (zid 104 z242''.toInt.toNat) z253'') 18 z261'') 12 v266_12_7) 13 v266_13_5)) (by rw [zf_ne (by decide), zf_same]; omega) (by rw [zf_ne (by decide), zf_same]; omega) (by omega) (fun h => by rw [zf_same] at h; rw [zf_ne (by decide), zf_same]; omega)
            exact (ih _ (by omega)).1 _ bs mo hbs (xpA_sign (x := z253''.toInt) hA234 p1 p2 p3 (by first | (have := p5 (by omega); omega) | omega) (eFr_f (eFr_t (eFr_o (a := 18) (eFr_w (by omega) hE234) (by omega)) (by rw [zf_ne (by decide), zf_arr _ _ _ _ _ (by decide)]; omega) (by omega)) (by omega) (by rw [zf_ne (by decide), zf_ne (by decide), zf_arr _ _ _ _ _ (by decide)]; omega)) (by omega) (by rw [zf_ne (by decide), zf_ne (by decide), zf_same]; omega) (by first | (rw [zf_ne (by decide), zf_ne (by decide), zf_ne (by decide), zf_arr _ _ _ _ _ (by decide)]; done) | (rw [zf_ne (by decide), zf_ne (by decide), zf_ne (by decide), zf_arr _ _ _ _ _ (by decide)]; omega)) (by first | (rw [zf_ne (by decide), zf_ne (by decide), zf_ne (by decide), zf_arr _ _ _ _ _ (by decide)]; done) | (rw [zf_ne (by decide), zf_ne (by decide), zf_ne (by decide), zf_arr _ _ _ _ _ (by decide)]; omega)) (by rw [← hz242'', zv_fld _ _ _ _ _ (by decide), zv_fld _ _ _ _ _ (by decide), zv_fld _ _ _ _ _ (by decide), zv_at]) (fun i hi => by rw [zv_fld _ _ _ _ _ (by decide), zv_fld _ _ _ _ _ (by decide), zv_fld _ _ _ _ _ (by decide), zv_ne _ _ _ _ _ _ (by omega) (by omega) (Or.inr ⟨by omega, by omega, by omega⟩)]) (fun i hi => ⟨((zupd_fr (by unfold zid; omega)).trans ((zupd_fr (by unfold zid; omega)).trans ((zupd_fr (by unfold zid; omega)).trans ((zupd_fr (by unfold zid; omega)).trans rfl)))), ((zupd_fr (by unfold zid; omega)).trans ((zupd_fr (by unfold zid; omega)).trans ((zupd_fr (by unfold zid; omega)).trans ((zupd_fr (by unfold zid; omega)).trans rfl))))⟩) (by rw [zf_ne (by decide), zf_same]; omega) (fun h => by rw [zf_same] at h; rw [zf_ne (by decide), zf_same]; omega) (by omega) (by omega)) (by omega) rfl
          · rw [zf_ne (by decide), zf_arr _ _ _ _ _ (by decide)] at hv266_12_8e
            refine hA_goto (zs_goto em230_269 (t := 12) (by decide)) ?_
            have hmu := xpmu_d (J := IJ) (J' := (zupd (zupd (zupd I234 (zid 104 z242''.toInt.toNat) z253'') 18 z261'') 12 v266_12_8)) (by rw [zf_same]; omega) (by rw [zf_same]; omega) (by omega) (fun h => by rw [zf_ne (by decide), zf_ne (by decide), zf_arr _ _ _ _ _ (by decide)] at h; rw [zf_same]; omega)
            exact (ih _ (by omega)).1 _ bs mo hbs (xpA_sign (x := z253''.toInt) hA234 p1 p2 p3 (by first | (have := p5 (by omega); omega) | omega) (eFr_t (eFr_o (a := 18) (eFr_w (by omega) hE234) (by omega)) (by rw [zf_ne (by decide), zf_arr _ _ _ _ _ (by decide)]; omega) (by omega)) (by omega) (by rw [zf_ne (by decide), zf_same]; omega) (by first | (rw [zf_ne (by decide), zf_ne (by decide), zf_arr _ _ _ _ _ (by decide)]; done) | (rw [zf_ne (by decide), zf_ne (by decide), zf_arr _ _ _ _ _ (by decide)]; omega)) (by first | (rw [zf_ne (by decide), zf_ne (by decide), zf_arr _ _ _ _ _ (by decide)]; done) | (rw [zf_ne (by decide), zf_ne (by decide), zf_arr _ _ _ _ _ (by decide)]; omega)) (by rw [← hz242'', zv_fld _ _ _ _ _ (by decide), zv_fld _ _ _ _ _ (by decide), zv_at]) (fun i hi => by rw [zv_fld _ _ _ _ _ (by decide), zv_fld _ _ _ _ _ (by decide), zv_ne _ _ _ _ _ _ (by omega) (by omega) (Or.inr ⟨by omega, by omega, by omega⟩)]) (fun i hi => ⟨((zupd_fr (by unfold zid; omega)).trans ((zupd_fr (by unfold zid; omega)).trans ((zupd_fr (by unfold zid; omega)).trans rfl))), ((zupd_fr (by unfold zid; omega)).trans ((zupd_fr (by unfold zid; omega)).trans ((zupd_fr (by unfold zid; omega)).trans rfl)))⟩) (by rw [zf_same]; omega) (fun h => by rw [zf_ne (by decide), zf_ne (by decide), zf_arr _ _ _ _ _ (by decide)] at h; rw [zf_same]; omega) (by omega) (by omega)) (by omega) rfl
        · exfalso
          omega
set_option maxRecDepth 10000 in
set_option maxHeartbeats 4000000 in
theorem hM_262 : zOKx 262 := by
  intro d hc as I q h hq
  have h : hpr_262 (d + 1) as I := h
  obtain ⟨hd, rfl, hpre⟩ := h
  cases (show some _ = some q from hq)
  obtain ⟨⟨h12a, h12b⟩, h13a, hz⟩ := hpre
  by_cases h13 : ¬ zf I 13 = 0
  · refine hmet (L := [some (.inr (.inl (some 75))), none, none]) (by decide) (Nat.le_of_ble_eq_true rfl) hc rfl ?_
    refine hA_aload (zs_aload_n em230_0) rfl ?_
    refine hA_const (k := 0) (zs_iconst (v := 0) em230_1 (by decide +kernel)) (by decide +kernel) (fun z1 hz1 => ?_)
    refine hA_puti0 (id := 18) (zs_puti zInj0 (T := TX12) (M := 70) (ty := tyX12) (ci := 12) (j := 55) (kd := 0) em230_2 rfl inX12 tyX12_ok nmX12 (by decide) wd_1327 (Or.inl ⟨rfl, rfl⟩) rfl ((congrFun xo_12 307).trans rfl)) ⟨_, rfl, rfl⟩ (fun h => by cases h) ?_
    refine hA_aload (zs_aload_n em230_5) rfl ?_
    refine hA_getf0 (id := 14) (zs_getf (T := TX12) (M := 70) (ci := 12) (j := 26) em230_6 rfl inX12 (by decide) wd_1293 ((congrFun xo_12 227).trans rfl)) ⟨_, rfl, rfl⟩ (fun z6 hz6 => ?_)
    rw [zf_ne (by decide)] at hz6
    refine hA_istore (L' := [some (.inr (.inl (some 75))), some (.inl z6), none]) (zs_istore_n em230_9) ⟨Nat.le_of_ble_eq_true rfl, rfl⟩ rfl ?_
    refine hA_const (k := 1) (zs_iconst (v := 1) em230_10 (by decide +kernel)) (by decide +kernel) (fun z10 hz10 => ?_)
    refine hA_istore (L' := [some (.inr (.inl (some 75))), some (.inl z6), some (.inl z10)]) (zs_istore_n em230_11) ⟨Nat.le_of_ble_eq_true rfl, rfl⟩ rfl ?_
    refine hA_iload (zs_iload_n em230_12) rfl ?_
    refine hA_if (zs_ifeq em230_13 (t := 272) (by decide)) (fun (c13 : z10.toInt = 0) => ?_) (fun (c13 : ¬ z10.toInt = 0) => ?_)
    · exfalso
      omega
    · refine hA_aload (zs_aload_n em230_16) rfl ?_
      refine hA_getf0 (id := 13) (zs_getf (T := TX12) (M := 70) (ci := 12) (j := 27) em230_17 rfl inX12 (by decide) wd_1294 ((congrFun xo_12 200).trans rfl)) ⟨_, rfl, rfl⟩ (fun z17 hz17 => ?_)
      rw [zf_ne (by decide)] at hz17
      refine hA_if (zs_ifne em230_20 (t := 272) (by decide)) (fun (c20 : ¬ z17.toInt = 0) => ?_) (fun (c20 : ¬ ¬ z17.toInt = 0) => ?_)
      · refine hA_return ⟨rfl, em230_272⟩ ⟨Nat.le_refl _, Nat.le_refl _⟩ ?_
        intro he
        cases he
        exact ⟨rfl, eFr_o (a := 18) (eFr_rf h12b h13a) (by omega), fun h => absurd h h13, fun h => absurd (by rw [zf_ne (by decide)] at h; exact h) h13, fun _ => ⟨zf_ne (by decide), zf_ne (by decide)⟩⟩
      · exfalso
        omega
  replace h13 : zf I 13 = 0 := by omega
  obtain ⟨h14, h23, h17a, h17b⟩ := hz h13
  have hE0 := eFr_rf (I := I) h12b (by omega)
  have main : ∀ n : Nat, xpG d I n := by
    intro n
    induction n using Nat.strongRecOn with
    | ind n ih => exact ⟨xp_12 hc hd h12a h12b h13 h14 h23 h17a h17b ih, xp_23 hc hd h12a h12b h13 h14 h23 h17a h17b ih, xp_96 hc hd h12a h12b h13 h14 h23 h17a h17b ih, xp_145 hc hd h12a h12b h13 h14 h23 h17a h17b ih, xp_191 hc hd h12a h12b h13 h14 h23 h17a h17b ih, xp_210 hc hd h12a h12b h13 h14 h23 h17a h17b ih⟩
  refine hmet (L := [some (.inr (.inl (some 75))), none, none]) (by decide) (Nat.le_of_ble_eq_true rfl) hc rfl ?_
  refine hA_aload (zs_aload_n em230_0) rfl ?_
  refine hA_const (k := 0) (zs_iconst (v := 0) em230_1 (by decide +kernel)) (by decide +kernel) (fun z1 hz1 => ?_)
  refine hA_puti0 (id := 18) (zs_puti zInj0 (T := TX12) (M := 70) (ty := tyX12) (ci := 12) (j := 55) (kd := 0) em230_2 rfl inX12 tyX12_ok nmX12 (by decide) wd_1327 (Or.inl ⟨rfl, rfl⟩) rfl ((congrFun xo_12 307).trans rfl)) ⟨_, rfl, rfl⟩ (fun h => by cases h) ?_
  refine hA_aload (zs_aload_n em230_5) rfl ?_
  refine hA_getf0 (id := 14) (zs_getf (T := TX12) (M := 70) (ci := 12) (j := 26) em230_6 rfl inX12 (by decide) wd_1293 ((congrFun xo_12 227).trans rfl)) ⟨_, rfl, rfl⟩ (fun z6 hz6 => ?_)
  rw [zf_ne (by decide)] at hz6
  refine hA_istore (L' := [some (.inr (.inl (some 75))), some (.inl z6), none]) (zs_istore_n em230_9) ⟨Nat.le_of_ble_eq_true rfl, rfl⟩ rfl ?_
  refine hA_const (k := 1) (zs_iconst (v := 1) em230_10 (by decide +kernel)) (by decide +kernel) (fun z10 hz10 => ?_)
  refine hA_istore (L' := [some (.inr (.inl (some 75))), some (.inl z6), some (.inl z10)]) (zs_istore_n em230_11) ⟨Nat.le_of_ble_eq_true rfl, rfl⟩ rfl ?_
  have hA0 : xpA I (zupd I 18 z1) 0 := ⟨(eFr_o (a := 18) hE0 (by omega)), 0, 0, 0, by rw [zf_same]; omega, by rw [zf_ne (by decide)]; omega, by omega, fun _ => by omega, ⟨rfl, rfl⟩, by rw [zf_ne (by decide)]; rw [Int.sub_self]; exact rfl, by rw [zf_ne (by decide)]; rw [zf_ne (by decide)]; omega, fun _ => by rw [zf_ne (by decide)]; rw [zf_ne (by decide)]; omega⟩
  exact (main _).1 _ z6 z10 (by omega) hA0 (by omega) rfl
