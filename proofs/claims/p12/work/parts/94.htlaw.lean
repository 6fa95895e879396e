theorem em226_0 : decode prog_14_method_33_code 0 = .ok (.aload_n 0, 1) := by decide +kernel
theorem em226_1 : decode prog_14_method_33_code 1 = .ok (.iconst 5, 1) := by decide +kernel
theorem em226_2 : decode prog_14_method_33_code 2 = .ok (.invokevirtual 258, 3) := by decide +kernel
theorem em226_5 : decode prog_14_method_33_code 5 = .ok (.aload_n 0, 1) := by decide +kernel
theorem em226_6 : decode prog_14_method_33_code 6 = .ok (.getfield 239, 3) := by decide +kernel
theorem em226_9 : decode prog_14_method_33_code 9 = .ok (.istore_n 2, 1) := by decide +kernel
theorem em226_10 : decode prog_14_method_33_code 10 = .ok (.iconst 0, 1) := by decide +kernel
theorem em226_11 : decode prog_14_method_33_code 11 = .ok (.istore_n 3, 1) := by decide +kernel
theorem em226_12 : decode prog_14_method_33_code 12 = .ok (.aload_n 0, 1) := by decide +kernel
theorem em226_13 : decode prog_14_method_33_code 13 = .ok (.getfield 200, 3) := by decide +kernel
theorem em226_16 : decode prog_14_method_33_code 16 = .ok (.ifCond .ne 113, 3) := by decide +kernel
theorem em226_19 : decode prog_14_method_33_code 19 = .ok (.aload_n 0, 1) := by decide +kernel
theorem em226_20 : decode prog_14_method_33_code 20 = .ok (.bipush 29, 2) := by decide +kernel
theorem em226_22 : decode prog_14_method_33_code 22 = .ok (.invokevirtual 218, 3) := by decide +kernel
theorem em226_25 : decode prog_14_method_33_code 25 = .ok (.ifCond .eq 104, 3) := by decide +kernel
theorem em226_28 : decode prog_14_method_33_code 28 = .ok (.iload_n 3, 1) := by decide +kernel
theorem em226_29 : decode prog_14_method_33_code 29 = .ok (.iconst 4, 1) := by decide +kernel
theorem em226_30 : decode prog_14_method_33_code 30 = .ok (.if_icmp .ne 8, 3) := by decide +kernel
theorem em226_33 : decode prog_14_method_33_code 33 = .ok (.aload_n 0, 1) := by decide +kernel
theorem em226_34 : decode prog_14_method_33_code 34 = .ok (.iconst 2, 1) := by decide +kernel
theorem em226_35 : decode prog_14_method_33_code 35 = .ok (.invokevirtual 215, 3) := by decide +kernel
theorem em226_38 : decode prog_14_method_33_code 38 = .ok (.aload_n 0, 1) := by decide +kernel
theorem em226_39 : decode prog_14_method_33_code 39 = .ok (.getfield 200, 3) := by decide +kernel
theorem em226_42 : decode prog_14_method_33_code 42 = .ok (.ifCond .le 4, 3) := by decide +kernel
theorem em226_45 : decode prog_14_method_33_code 45 = .ok (.return_, 1) := by decide +kernel
theorem em226_46 : decode prog_14_method_33_code 46 = .ok (.iinc 3 1, 3) := by decide +kernel
theorem em226_49 : decode prog_14_method_33_code 49 = .ok (.aload_n 0, 1) := by decide +kernel
theorem em226_50 : decode prog_14_method_33_code 50 = .ok (.invokevirtual 221, 3) := by decide +kernel
theorem em226_53 : decode prog_14_method_33_code 53 = .ok (.aload_n 0, 1) := by decide +kernel
theorem em226_54 : decode prog_14_method_33_code 54 = .ok (.getfield 79, 3) := by decide +kernel
theorem em226_57 : decode prog_14_method_33_code 57 = .ok (.aload_n 0, 1) := by decide +kernel
theorem em226_58 : decode prog_14_method_33_code 58 = .ok (.getfield 239, 3) := by decide +kernel
theorem em226_61 : decode prog_14_method_33_code 61 = .ok (.iconst 1, 1) := by decide +kernel
theorem em226_62 : decode prog_14_method_33_code 62 = .ok (.bastore, 1) := by decide +kernel
theorem em226_63 : decode prog_14_method_33_code 63 = .ok (.aload_n 0, 1) := by decide +kernel
theorem em226_64 : decode prog_14_method_33_code 64 = .ok (.getfield 83, 3) := by decide +kernel
theorem em226_67 : decode prog_14_method_33_code 67 = .ok (.aload_n 0, 1) := by decide +kernel
theorem em226_68 : decode prog_14_method_33_code 68 = .ok (.getfield 239, 3) := by decide +kernel
theorem em226_71 : decode prog_14_method_33_code 71 = .ok (.aload_n 0, 1) := by decide +kernel
theorem em226_72 : decode prog_14_method_33_code 72 = .ok (.getfield 242, 3) := by decide +kernel
theorem em226_75 : decode prog_14_method_33_code 75 = .ok (.iastore, 1) := by decide +kernel
theorem em226_76 : decode prog_14_method_33_code 76 = .ok (.aload_n 0, 1) := by decide +kernel
theorem em226_77 : decode prog_14_method_33_code 77 = .ok (.invokevirtual 301, 3) := by decide +kernel
theorem em226_80 : decode prog_14_method_33_code 80 = .ok (.aload_n 0, 1) := by decide +kernel
theorem em226_81 : decode prog_14_method_33_code 81 = .ok (.bipush 13, 2) := by decide +kernel
theorem em226_83 : decode prog_14_method_33_code 83 = .ok (.invokevirtual 258, 3) := by decide +kernel
theorem em226_86 : decode prog_14_method_33_code 86 = .ok (.aload_n 0, 1) := by decide +kernel
theorem em226_87 : decode prog_14_method_33_code 87 = .ok (.getfield 86, 3) := by decide +kernel
theorem em226_90 : decode prog_14_method_33_code 90 = .ok (.aload_n 0, 1) := by decide +kernel
theorem em226_91 : decode prog_14_method_33_code 91 = .ok (.getfield 239, 3) := by decide +kernel
theorem em226_94 : decode prog_14_method_33_code 94 = .ok (.aload_n 0, 1) := by decide +kernel
theorem em226_95 : decode prog_14_method_33_code 95 = .ok (.getfield 242, 3) := by decide +kernel
theorem em226_98 : decode prog_14_method_33_code 98 = .ok (.iastore, 1) := by decide +kernel
theorem em226_99 : decode prog_14_method_33_code 99 = .ok (.aload_n 0, 1) := by decide +kernel
theorem em226_100 : decode prog_14_method_33_code 100 = .ok (.getfield 200, 3) := by decide +kernel
theorem em226_103 : decode prog_14_method_33_code 103 = .ok (.ifCond .ne 7, 3) := by decide +kernel
theorem em226_106 : decode prog_14_method_33_code 106 = .ok (.aload_n 0, 1) := by decide +kernel
theorem em226_107 : decode prog_14_method_33_code 107 = .ok (.invokevirtual 301, 3) := by decide +kernel
theorem em226_110 : decode prog_14_method_33_code 110 = .ok (.aload_n 0, 1) := by decide +kernel
theorem em226_111 : decode prog_14_method_33_code 111 = .ok (.bipush 30, 2) := by decide +kernel
theorem em226_113 : decode prog_14_method_33_code 113 = .ok (.invokevirtual 258, 3) := by decide +kernel
theorem em226_116 : decode prog_14_method_33_code 116 = .ok (.aload_n 0, 1) := by decide +kernel
theorem em226_117 : decode prog_14_method_33_code 117 = .ok (.invokevirtual 304, 3) := by decide +kernel
theorem em226_120 : decode prog_14_method_33_code 120 = .ok (.aload_n 0, 1) := by decide +kernel
theorem em226_121 : decode prog_14_method_33_code 121 = .ok (.bipush 31, 2) := by decide +kernel
theorem em226_123 : decode prog_14_method_33_code 123 = .ok (.invokevirtual 258, 3) := by decide +kernel
theorem em226_126 : decode prog_14_method_33_code 126 = .ok (.goto (-114), 3) := by decide +kernel
theorem em226_129 : decode prog_14_method_33_code 129 = .ok (.aload_n 0, 1) := by decide +kernel
theorem em226_130 : decode prog_14_method_33_code 130 = .ok (.getfield 79, 3) := by decide +kernel
theorem em226_133 : decode prog_14_method_33_code 133 = .ok (.aload_n 0, 1) := by decide +kernel
theorem em226_134 : decode prog_14_method_33_code 134 = .ok (.getfield 239, 3) := by decide +kernel
theorem em226_137 : decode prog_14_method_33_code 137 = .ok (.iconst 0, 1) := by decide +kernel
theorem em226_138 : decode prog_14_method_33_code 138 = .ok (.bastore, 1) := by decide +kernel
theorem em226_139 : decode prog_14_method_33_code 139 = .ok (.aload_n 0, 1) := by decide +kernel
theorem em226_140 : decode prog_14_method_33_code 140 = .ok (.invokevirtual 304, 3) := by decide +kernel
theorem em226_143 : decode prog_14_method_33_code 143 = .ok (.aload_n 0, 1) := by decide +kernel
theorem em226_144 : decode prog_14_method_33_code 144 = .ok (.iconst 4, 1) := by decide +kernel
theorem em226_145 : decode prog_14_method_33_code 145 = .ok (.invokevirtual 258, 3) := by decide +kernel
theorem em226_148 : decode prog_14_method_33_code 148 = .ok (.aload_n 0, 1) := by decide +kernel
theorem em226_149 : decode prog_14_method_33_code 149 = .ok (.getfield 200, 3) := by decide +kernel
theorem em226_152 : decode prog_14_method_33_code 152 = .ok (.ifCond .le 4, 3) := by decide +kernel
theorem em226_155 : decode prog_14_method_33_code 155 = .ok (.return_, 1) := by decide +kernel
theorem em226_156 : decode prog_14_method_33_code 156 = .ok (.aload_n 0, 1) := by decide +kernel
theorem em226_157 : decode prog_14_method_33_code 157 = .ok (.getfield 73, 3) := by decide +kernel
theorem em226_160 : decode prog_14_method_33_code 160 = .ok (.iconst 4, 1) := by decide +kernel
theorem em226_161 : decode prog_14_method_33_code 161 = .ok (.aload_n 0, 1) := by decide +kernel
theorem em226_162 : decode prog_14_method_33_code 162 = .ok (.getfield 233, 3) := by decide +kernel
theorem em226_165 : decode prog_14_method_33_code 165 = .ok (.imul, 1) := by decide +kernel
theorem em226_166 : decode prog_14_method_33_code 166 = .ok (.iload_n 1, 1) := by decide +kernel
theorem em226_167 : decode prog_14_method_33_code 167 = .ok (.iadd, 1) := by decide +kernel
theorem em226_168 : decode prog_14_method_33_code 168 = .ok (.iload_n 2, 1) := by decide +kernel
theorem em226_169 : decode prog_14_method_33_code 169 = .ok (.iastore, 1) := by decide +kernel
theorem em226_170 : decode prog_14_method_33_code 170 = .ok (.aload_n 0, 1) := by decide +kernel
theorem em226_171 : decode prog_14_method_33_code 171 = .ok (.getfield 76, 3) := by decide +kernel
theorem em226_174 : decode prog_14_method_33_code 174 = .ok (.iconst 4, 1) := by decide +kernel
theorem em226_175 : decode prog_14_method_33_code 175 = .ok (.aload_n 0, 1) := by decide +kernel
theorem em226_176 : decode prog_14_method_33_code 176 = .ok (.getfield 233, 3) := by decide +kernel
theorem em226_179 : decode prog_14_method_33_code 179 = .ok (.imul, 1) := by decide +kernel
theorem em226_180 : decode prog_14_method_33_code 180 = .ok (.iload_n 1, 1) := by decide +kernel
theorem em226_181 : decode prog_14_method_33_code 181 = .ok (.iadd, 1) := by decide +kernel
theorem em226_182 : decode prog_14_method_33_code 182 = .ok (.aload_n 0, 1) := by decide +kernel
theorem em226_183 : decode prog_14_method_33_code 183 = .ok (.getfield 239, 3) := by decide +kernel
theorem em226_186 : decode prog_14_method_33_code 186 = .ok (.iastore, 1) := by decide +kernel
theorem em226_187 : decode prog_14_method_33_code 187 = .ok (.return_, 1) := by decide +kernel
set_option maxRecDepth 10000 in
set_option maxHeartbeats 4000000 in
theorem tl_129 {d : Nat} {I IJ : zI} {a fs ifs : Int32} (hc : zCalls zG0 PZ zbd zpre zpost d) (hd : 8 ≤ d + 1) (h16 : 0 ≤ zf I 16) (ha0 : 0 ≤ a.toInt) (ha1 : a.toInt ≤ 3) (hfs : fs.toInt = zf I 16) (hTJ : tlP I IJ 101 2 tlT) : zAt zG0 PZ zbd zpre zpost (d, (zbd 258).1, (zbd 258).2) prog_14_method_33_code "CapitalCaseModel" (zRet prog_14_method_33_code none (zbd 258) (hpost 258 [.inr (.inl (some 75)), .inl a] I)) 129 [some (.inr (.inl (some 75))), some (.inl a), some (.inl fs), some (.inl ifs)] [] IJ (0, 0) := by
  obtain ⟨⟨b12a, b12b⟩, b13, ⟨b23a, b23b⟩, ⟨b16a, b16b⟩, ⟨b17a, b17b⟩, bz⟩ := tlP_b hTJ (by omega)
  refine hA_aload (zs_aload_n em226_129) rfl ?_
  refine hA_getf2 (r := 96) (zs_getf (T := TX12) (M := 70) (ci := 12) (j := 44) em226_130 rfl inX12 (by decide) wd_1316 ((congrFun xo_12 79).trans rfl)) ⟨_, rfl, rfl⟩ ?_
  refine hA_aload (zs_aload_n em226_133) rfl ?_
  refine hA_getf0 (id := 16) (zs_getf (T := TX12) (M := 70) (ci := 12) (j := 43) em226_134 rfl inX12 (by decide) wd_1315 ((congrFun xo_12 239).trans rfl)) ⟨_, rfl, rfl⟩ (fun z134 hz134 => ?_)
  refine hA_const (k := 0) (zs_iconst (v := 0) em226_137 (by decide +kernel)) (by decide +kernel) (fun z137 hz137 => ?_)
  refine hA_zast (kd := 96) (len := 260) (zs_bast zInj0 em226_138) ⟨rfl, rfl, rfl⟩ (by omega) (by show _ < ((260 : Nat) : Int); omega) (by omega) (by omega) ?_
  refine hA_aload (zs_aload_n em226_139) rfl ?_
  have hQ140 : tlP I (zupd IJ (zid 96 z134.toInt.toNat) z137) 101 2 tlQ := tlP_st hTJ (by omega) ⟨by decide, by decide⟩ (by omega) (fun _ => ⟨by omega, by omega⟩) (fun _ _ => by unfold tlQ; rw [zf_arr _ _ _ _ _ (by decide)]; refine Or.inl ?_; rw [show zf IJ 16 = z134.toInt by omega, zv_at]; omega)
  clear b12a b12b b13 b23a b23b b16a b16b b17a b17b bz
  obtain ⟨⟨b12a, b12b⟩, b13, ⟨b23a, b23b⟩, ⟨b16a, b16b⟩, ⟨b17a, b17b⟩, bz⟩ := tlP_b hQ140 (by omega)
  refine hA_callV (as := []) (rest := []) (B' := (0, 0)) (zs_invV (T := TX12) em226_140 zl_259 rfl wd_1613 wd_1615 wd_71 ((congrFun xo_12 304).trans rfl) xm_227) rfl ⟨_, rfl⟩ (Nat.le_of_ble_eq_true rfl) rfl ⟨Nat.zero_le _, Nat.zero_le _⟩ (hpre_of rfl (show hpr_259 d [.inr (.inl (some 75))] (zupd IJ (zid 96 z134.toInt.toNat) z137) from ⟨by show 6 ≤ d; omega, rfl, ⟨⟨b12a, b12b⟩, b13, by omega, ⟨by omega, by omega⟩, fun h => ⟨(bz h).1, b17a, (bz h).2.1⟩⟩⟩)) (fun r140 I140 hp140 => ?_)
  replace hp140 : hpo_259 _ _ _ _ := hpost_of rfl hp140
  replace hp140 := hp140 rfl
  obtain ⟨rfl, hX, hX1, hX2, hX3⟩ := hp140
  have hT140 : tlP I I140 102 (-1) tlT := tlP_t hQ140 (by omega) hX hX1 hX3
  clear hX1 hX2 hX3
  clear b12a b12b b13 b23a b23b b16a b16b b17a b17b bz
  obtain ⟨⟨b12a, b12b⟩, b13, ⟨b23a, b23b⟩, ⟨b16a, b16b⟩, ⟨b17a, b17b⟩, bz⟩ := tlP_b hT140 (by omega)
  refine hA_aload (zs_aload_n em226_143) rfl ?_
  refine hA_const (k := 4) (zs_iconst (v := 4) em226_144 (by decide +kernel)) (by decide +kernel) (fun z144 hz144 => ?_)
  refine hA_callV (as := [.inl z144]) (rest := []) (B' := (0, 0)) (zs_invV (T := TX12) em226_145 zl_196 rfl wd_1559 wd_1561 wd_59 ((congrFun xo_12 258).trans rfl) xm_169) rfl ⟨_, rfl⟩ (Nat.le_of_ble_eq_true rfl) rfl ⟨Nat.zero_le _, Nat.zero_le _⟩ (zpre_of zh_196 ⟨(by show 3 ≤ d; omega), ⟨_, _, rfl, rfl, ⟨_, _, rfl, ⟨_, rfl, show (0 : Int) ≤ z144.toInt by omega, show z144.toInt ≤ (40 : Int) by omega⟩, rfl⟩⟩, (hF_cons (lo := 0) (hi := 400) ⟨by omega, by omega⟩ (hF_cons (lo := 0) (hi := 2147483647) ⟨by omega, by exact an_hi _⟩ hF_nil)), fun _ => (tlP_i hT140)⟩) (fun r145 I145 hp145 => ?_)
  obtain ⟨rfl, hN145, hInv145⟩ := must_q (by omega) (zpost_of zh_196 hp145)
  have hT145 : tlP I I145 102 0 tlT := tlP_n hT140 (by omega) hN145 nFH_T
  clear b12a b12b b13 b23a b23b b16a b16b b17a b17b bz
  obtain ⟨⟨b12a, b12b⟩, b13, ⟨b23a, b23b⟩, ⟨b16a, b16b⟩, ⟨b17a, b17b⟩, bz⟩ := tlP_b hT145 (by omega)
  refine hA_aload (zs_aload_n em226_148) rfl ?_
  refine hA_getf0 (id := 13) (zs_getf (T := TX12) (M := 70) (ci := 12) (j := 27) em226_149 rfl inX12 (by decide) wd_1294 ((congrFun xo_12 200).trans rfl)) ⟨_, rfl, rfl⟩ (fun z149 hz149 => ?_)
  refine hA_if (zs_ifle em226_152 (t := 156) (by decide)) (fun (c152 : z149.toInt ≤ 0) => ?_) (fun (c152 : ¬ z149.toInt ≤ 0) => ?_)
  · refine hA_aload (zs_aload_n em226_156) rfl ?_
    refine hA_getf2 (r := 94) (zs_getf (T := TX12) (M := 70) (ci := 12) (j := 41) em226_157 rfl inX12 (by decide) wd_1313 ((congrFun xo_12 73).trans rfl)) ⟨_, rfl, rfl⟩ ?_
    refine hA_const (k := 4) (zs_iconst (v := 4) em226_160 (by decide +kernel)) (by decide +kernel) (fun z160 hz160 => ?_)
    refine hA_aload (zs_aload_n em226_161) rfl ?_
    refine hA_getf0 (id := 23) (zs_getf (T := TX12) (M := 70) (ci := 12) (j := 32) em226_162 rfl inX12 (by decide) wd_1300 ((congrFun xo_12 233).trans rfl)) ⟨_, rfl, rfl⟩ (fun z162 hz162 => ?_)
    refine hA_mull (c := 4) (zs_imul em226_165) hz160 (by omega) (by omega) (fun z165 hz165 => ?_)
    refine hA_iload (zs_iload_n em226_166) rfl ?_
    refine hA_add (zs_iadd em226_167) (by omega) (by omega) (fun z167 hz167 => ?_)
    refine hA_iload (zs_iload_n em226_168) rfl ?_
    refine hA_iast (kd := 94) (len := 8) (zs_iast zInj0 em226_169) ⟨rfl, rfl, rfl⟩ (by omega) (by show _ < ((8 : Nat) : Int); omega) ?_
    refine hA_aload (zs_aload_n em226_170) rfl ?_
    refine hA_getf2 (r := 95) (zs_getf (T := TX12) (M := 70) (ci := 12) (j := 42) em226_171 rfl inX12 (by decide) wd_1314 ((congrFun xo_12 76).trans rfl)) ⟨_, rfl, rfl⟩ ?_
    refine hA_const (k := 4) (zs_iconst (v := 4) em226_174 (by decide +kernel)) (by decide +kernel) (fun z174 hz174 => ?_)
    refine hA_aload (zs_aload_n em226_175) rfl ?_
    refine hA_getf0 (id := 23) (zs_getf (T := TX12) (M := 70) (ci := 12) (j := 32) em226_176 rfl inX12 (by decide) wd_1300 ((congrFun xo_12 233).trans rfl)) ⟨_, rfl, rfl⟩ (fun z176 hz176 => ?_)
    rw [zf_arr _ _ _ _ _ (by decide)] at hz176
    refine hA_mull (c := 4) (zs_imul em226_179) hz174 (by omega) (by omega) (fun z179 hz179 => ?_)
    refine hA_iload (zs_iload_n em226_180) rfl ?_
    refine hA_add (zs_iadd em226_181) (by omega) (by omega) (fun z181 hz181 => ?_)
    refine hA_aload (zs_aload_n em226_182) rfl ?_
    refine hA_getf0 (id := 16) (zs_getf (T := TX12) (M := 70) (ci := 12) (j := 43) em226_183 rfl inX12 (by decide) wd_1315 ((congrFun xo_12 239).trans rfl)) ⟨_, rfl, rfl⟩ (fun z183 hz183 => ?_)
    rw [zf_arr _ _ _ _ _ (by decide)] at hz183
    refine hA_iast (kd := 95) (len := 8) (zs_iast zInj0 em226_186) ⟨rfl, rfl, rfl⟩ (by omega) (by show _ < ((8 : Nat) : Int); omega) ?_
    refine hA_return ⟨rfl, em226_187⟩ ⟨Nat.le_refl _, Nat.le_refl _⟩ ?_
    intro a' he
    cases he
    exact ⟨rfl, tlP_end hT145 (by omega) (by omega) (by omega) ⟨ha0, ha1⟩ (by omega) (by omega) hfs (by omega)⟩
  · refine hA_return ⟨rfl, em226_155⟩ ⟨Nat.le_refl _, Nat.le_refl _⟩ ?_
    intro a' he
    cases he
    exact ⟨rfl, tlP_ret hT145 (by omega) (by omega)⟩
set_option maxRecDepth 10000 in
set_option maxHeartbeats 4000000 in
theorem tl_110 {d : Nat} {I IJ2 : zI} {a fs ifs : Int32} (hc : zCalls zG0 PZ zbd zpre zpost d) (hd : 8 ≤ d + 1) (h16 : 0 ≤ zf I 16) (ha0 : 0 ≤ a.toInt) (ha1 : a.toInt ≤ 3) (hfs : fs.toInt = zf I 16) (k12 : ∀ J : zI, tlP I J 101 2 tlT → zAt zG0 PZ zbd zpre zpost (d, (zbd 258).1, (zbd 258).2) prog_14_method_33_code "CapitalCaseModel" (zRet prog_14_method_33_code none (zbd 258) (hpost 258 [.inr (.inl (some 75)), .inl a] I)) 12 [some (.inr (.inl (some 75))), some (.inl a), some (.inl fs), some (.inl ifs)] [] J (0, 0)) (hTJ : tlP I IJ2 100 6 tlE) : zAt zG0 PZ zbd zpre zpost (d, (zbd 258).1, (zbd 258).2) prog_14_method_33_code "CapitalCaseModel" (zRet prog_14_method_33_code none (zbd 258) (hpost 258 [.inr (.inl (some 75)), .inl a] I)) 110 [some (.inr (.inl (some 75))), some (.inl a), some (.inl fs), some (.inl ifs)] [] IJ2 (0, 0) := by
  obtain ⟨⟨b12a, b12b⟩, b13, ⟨b23a, b23b⟩, ⟨b16a, b16b⟩, ⟨b17a, b17b⟩, bz⟩ := tlP_b hTJ (by omega)
  refine hA_aload (zs_aload_n em226_110) rfl ?_
  refine hA_const (k := 30) (zs_bipush (v := 30) em226_111 (by decide +kernel)) (by decide +kernel) (fun z111 hz111 => ?_)
  refine hA_callV (as := [.inl z111]) (rest := []) (B' := (0, 0)) (zs_invV (T := TX12) em226_113 zl_196 rfl wd_1559 wd_1561 wd_59 ((congrFun xo_12 258).trans rfl) xm_169) rfl ⟨_, rfl⟩ (Nat.le_of_ble_eq_true rfl) rfl ⟨Nat.zero_le _, Nat.zero_le _⟩ (zpre_of zh_196 ⟨(by show 3 ≤ d; omega), ⟨_, _, rfl, rfl, ⟨_, _, rfl, ⟨_, rfl, show (0 : Int) ≤ z111.toInt by omega, show z111.toInt ≤ (40 : Int) by omega⟩, rfl⟩⟩, (hF_cons (lo := 0) (hi := 400) ⟨by omega, by omega⟩ (hF_cons (lo := 0) (hi := 2147483647) ⟨by omega, by exact an_hi _⟩ hF_nil)), fun _ => (tlP_i hTJ)⟩) (fun r113 I113 hp113 => ?_)
  obtain ⟨rfl, hN113, hInv113⟩ := must_q (by omega) (zpost_of zh_196 hp113)
  have hT113 : tlP I I113 100 7 tlE := tlP_n hTJ (by omega) hN113 nFH_E
  clear b12a b12b b13 b23a b23b b16a b16b b17a b17b bz
  obtain ⟨⟨b12a, b12b⟩, b13, ⟨b23a, b23b⟩, ⟨b16a, b16b⟩, ⟨b17a, b17b⟩, bz⟩ := tlP_b hT113 (by omega)
  refine hA_aload (zs_aload_n em226_116) rfl ?_
  have hQ117 : tlP I I113 100 7 tlQ := tlP_imp hT113 (fun h => Or.inr h)
  refine hA_callV (as := []) (rest := []) (B' := (0, 0)) (zs_invV (T := TX12) em226_117 zl_259 rfl wd_1613 wd_1615 wd_71 ((congrFun xo_12 304).trans rfl) xm_227) rfl ⟨_, rfl⟩ (Nat.le_of_ble_eq_true rfl) rfl ⟨Nat.zero_le _, Nat.zero_le _⟩ (hpre_of rfl (show hpr_259 d [.inr (.inl (some 75))] I113 from ⟨by show 6 ≤ d; omega, rfl, ⟨⟨b12a, b12b⟩, b13, by omega, ⟨by omega, by omega⟩, fun h => ⟨(bz h).1, b17a, (bz h).2.1⟩⟩⟩)) (fun r117 I117 hp117 => ?_)
  replace hp117 : hpo_259 _ _ _ _ := hpost_of rfl hp117
  replace hp117 := hp117 rfl
  obtain ⟨rfl, hX, hX1, hX2, hX3⟩ := hp117
  have hT117 : tlP I I117 101 4 tlT := tlP_t hQ117 (by omega) hX hX1 hX3
  clear hX1 hX2 hX3
  clear b12a b12b b13 b23a b23b b16a b16b b17a b17b bz
  obtain ⟨⟨b12a, b12b⟩, b13, ⟨b23a, b23b⟩, ⟨b16a, b16b⟩, ⟨b17a, b17b⟩, bz⟩ := tlP_b hT117 (by omega)
  refine hA_aload (zs_aload_n em226_120) rfl ?_
  refine hA_const (k := 31) (zs_bipush (v := 31) em226_121 (by decide +kernel)) (by decide +kernel) (fun z121 hz121 => ?_)
  refine hA_callV (as := [.inl z121]) (rest := []) (B' := (0, 0)) (zs_invV (T := TX12) em226_123 zl_196 rfl wd_1559 wd_1561 wd_59 ((congrFun xo_12 258).trans rfl) xm_169) rfl ⟨_, rfl⟩ (Nat.le_of_ble_eq_true rfl) rfl ⟨Nat.zero_le _, Nat.zero_le _⟩ (zpre_of zh_196 ⟨(by show 3 ≤ d; omega), ⟨_, _, rfl, rfl, ⟨_, _, rfl, ⟨_, rfl, show (0 : Int) ≤ z121.toInt by omega, show z121.toInt ≤ (40 : Int) by omega⟩, rfl⟩⟩, (hF_cons (lo := 0) (hi := 400) ⟨by omega, by omega⟩ (hF_cons (lo := 0) (hi := 2147483647) ⟨by omega, by exact an_hi _⟩ hF_nil)), fun _ => (tlP_i hT117)⟩) (fun r123 I123 hp123 => ?_)
  obtain ⟨rfl, hN123, hInv123⟩ := must_q (by omega) (zpost_of zh_196 hp123)
  have hT123 : tlP I I123 101 5 tlT := tlP_n hT117 (by omega) hN123 nFH_T
  clear b12a b12b b13 b23a b23b b16a b16b b17a b17b bz
  obtain ⟨⟨b12a, b12b⟩, b13, ⟨b23a, b23b⟩, ⟨b16a, b16b⟩, ⟨b17a, b17b⟩, bz⟩ := tlP_b hT123 (by omega)
  refine hA_goto (zs_goto em226_126 (t := 12) (by decide)) ?_
  exact k12 _ (tlP_mo hT123 (by omega) (by omega))
set_option maxRecDepth 10000 in
set_option maxHeartbeats 4000000 in
theorem hM_258 : zOKx 258 := by
  intro d hc as I q h hq
  have h : hpr_258 (d + 1) as I := h
  obtain ⟨hd, a, rfl, hpre⟩ := h
  cases (show some _ = some q from hq)
  obtain ⟨hS, hz, ha0, ha1⟩ := hpre
  have hb := hS.2
  obtain ⟨⟨h12a, h12b⟩, h13a, h23, ⟨h22a, h22b⟩, ⟨h17a, h17b⟩, ⟨h16a, h16b⟩, h15a, h15b⟩ := hb
  have h16 : 0 ≤ zf I 16 := by omega
  refine hmet (L := [some (.inr (.inl (some 75))), some (.inl a), none, none]) (by decide) (Nat.le_of_ble_eq_true rfl) hc rfl ?_
  refine hA_aload (zs_aload_n em226_0) rfl ?_
  refine hA_const (k := 5) (zs_iconst (v := 5) em226_1 (by decide +kernel)) (by decide +kernel) (fun z1 hz1 => ?_)
  refine hA_callV (as := [.inl z1]) (rest := []) (B' := (0, 0)) (zs_invV (T := TX12) em226_2 zl_196 rfl wd_1559 wd_1561 wd_59 ((congrFun xo_12 258).trans rfl) xm_169) rfl ⟨_, rfl⟩ (Nat.le_of_ble_eq_true rfl) rfl ⟨Nat.zero_le _, Nat.zero_le _⟩ (zpre_of zh_196 ⟨(by show 3 ≤ d; omega), ⟨_, _, rfl, rfl, ⟨_, _, rfl, ⟨_, rfl, show (0 : Int) ≤ z1.toInt by omega, show z1.toInt ≤ (40 : Int) by omega⟩, rfl⟩⟩, (hF_cons (lo := 0) (hi := 400) ⟨by omega, by omega⟩ (hF_cons (lo := 0) (hi := 2147483647) ⟨by omega, by exact an_hi _⟩ hF_nil)), fun _ => hS.1⟩) (fun r2 I2 hp2 => ?_)
  obtain ⟨rfl, hN2, hInv2⟩ := must_q (by omega) (zpost_of zh_196 hp2)
  refine hA_aload (zs_aload_n em226_5) rfl ?_
  refine hA_getf0 (id := 16) (zs_getf (T := TX12) (M := 70) (ci := 12) (j := 43) em226_6 rfl inX12 (by decide) wd_1315 ((congrFun xo_12 239).trans rfl)) ⟨_, rfl, rfl⟩ (fun z6 hz6 => ?_)
  refine hA_istore (L' := [some (.inr (.inl (some 75))), some (.inl a), some (.inl z6), none]) (zs_istore_n em226_9) ⟨Nat.le_of_ble_eq_true rfl, rfl⟩ rfl ?_
  refine hA_const (k := 0) (zs_iconst (v := 0) em226_10 (by decide +kernel)) (by decide +kernel) (fun z10 hz10 => ?_)
  refine hA_istore (L' := [some (.inr (.inl (some 75))), some (.inl a), some (.inl z6), some (.inl z10)]) (zs_istore_n em226_11) ⟨Nat.le_of_ble_eq_true rfl, rfl⟩ rfl ?_
  have hT2 : tlP I I2 101 2 tlT := ⟨sFr_n hN2, pS_mo (pS_n hS hN2) (by rw [zf_nF hN2 (by decide) (by decide), zf_nF hN2 (by decide) (by decide)]; omega), by rw [zf_nF hN2 (by decide) (by decide)]; exact Int.le_refl _, fun h => ⟨by have := (hN2.2.2.2.2 h).2; omega, pG_n hS (by omega) (hz (hN2.2.2.2.2 h).1) hN2 h, fun b b1 b2 => by rw [zf_nF hN2 (by decide) (by decide)] at b2; omega, trivial⟩⟩
  generalize hfsg : z6 = fs at *
  have hfs : fs.toInt = zf I 16 := by rw [← zf_nF hN2 (f := 16) (by decide) (by decide)]; exact hz6
  have loop : ∀ (n : Nat) (IJ : zI) (ifs : Int32) (hi0 : 0 ≤ ifs.toInt) (hi4 : ifs.toInt ≤ 4) (hTJ : tlP I IJ 101 2 tlT), (5 - ifs.toInt).toNat = n → zAt zG0 PZ zbd zpre zpost (d, (zbd 258).1, (zbd 258).2) prog_14_method_33_code "CapitalCaseModel" (zRet prog_14_method_33_code none (zbd 258) (hpost 258 [.inr (.inl (some 75)), .inl a] I)) 12 [some (.inr (.inl (some 75))), some (.inl a), some (.inl fs), some (.inl ifs)] [] IJ (0, 0) := by
    intro n
    induction n using Nat.strongRecOn with
    | ind n ih =>
      intro IJ ifs hi0 hi4 hTJ hn
      obtain ⟨⟨b12a, b12b⟩, b13, ⟨b23a, b23b⟩, ⟨b16a, b16b⟩, ⟨b17a, b17b⟩, bz⟩ := tlP_b hTJ (by omega)
      refine hA_aload (zs_aload_n em226_12) rfl ?_
      refine hA_getf0 (id := 13) (zs_getf (T := TX12) (M := 70) (ci := 12) (j := 27) em226_13 rfl inX12 (by decide) wd_1294 ((congrFun xo_12 200).trans rfl)) ⟨_, rfl, rfl⟩ (fun z13 hz13 => ?_)
      refine hA_if (zs_ifne em226_16 (t := 129) (by decide)) (fun (c16 : ¬ z13.toInt = 0) => ?_) (fun (c16 : ¬ ¬ z13.toInt = 0) => ?_)
      · exact tl_129 hc hd h16 ha0 ha1 hfs hTJ
      · refine hA_aload (zs_aload_n em226_19) rfl ?_
        refine hA_const (k := 29) (zs_bipush (v := 29) em226_20 (by decide +kernel)) (by decide +kernel) (fun z20 hz20 => ?_)
        refine hA_callV (as := [.inl z20]) (rest := []) (B' := (0, 0)) (zs_invV (T := TX12) em226_22 zl_285 rfl wd_1531 wd_1533 wd_52 ((congrFun xo_12 218).trans rfl) xm_149) rfl ⟨_, rfl⟩ (Nat.le_of_ble_eq_true rfl) rfl ⟨Nat.zero_le _, Nat.zero_le _⟩ (hpre_of rfl (show hpr_285 d [.inr (.inl (some 75)), .inl z20] IJ from ⟨by show 1 ≤ d; omega, z20, rfl, ⟨by omega, by omega⟩⟩)) (fun r22 I22 hp22 => ?_)
        replace hp22 : hpo_285 _ _ _ _ := hpost_of rfl hp22
        obtain ⟨z22, rfl, rfl, ⟨hz22, hz22f, hz22k⟩ | ⟨hz22, hz22k⟩⟩ := hp22 z20 rfl
        · refine hA_if (zs_ifeq em226_25 (t := 129) (by decide)) (fun (c25 : z22.toInt = 0) => ?_) (fun (c25 : ¬ z22.toInt = 0) => ?_)
          · exfalso
            omega
          · refine hA_iload (zs_iload_n em226_28) rfl ?_
            refine hA_const (k := 4) (zs_iconst (v := 4) em226_29 (by decide +kernel)) (by decide +kernel) (fun z29 hz29 => ?_)
            refine hA_icmp (zs_icmpne em226_30 (t := 38) (by decide)) (fun (c30 : ¬ ifs.toInt = z29.toInt) => ?_) (fun (c30 : ¬ ¬ ifs.toInt = z29.toInt) => ?_)
            · refine hA_aload (zs_aload_n em226_38) rfl ?_
              refine hA_getf0 (id := 13) (zs_getf (T := TX12) (M := 70) (ci := 12) (j := 27) em226_39 rfl inX12 (by decide) wd_1294 ((congrFun xo_12 200).trans rfl)) ⟨_, rfl, rfl⟩ (fun z39 hz39 => ?_)
              refine hA_if (zs_ifle em226_42 (t := 46) (by decide)) (fun (c42 : z39.toInt ≤ 0) => ?_) (fun (c42 : ¬ z39.toInt ≤ 0) => ?_)
              · have hTJ1 : tlP I IJ 100 2 tlT := tlP_mo hTJ (by have := (bz (by omega)).2.2; omega) (by omega)
                refine hA_iinc (c := 1) (zs_iinc (k := 1) em226_46 (by decide +kernel)) (by decide +kernel) rfl ⟨Nat.le_of_ble_eq_true rfl, rfl⟩ (by omega) (by omega) (fun z46 hz46 => ?_)
                show zAt _ _ _ _ _ _ _ _ _ _ [some (.inr (.inl (some 75))), some (.inl a), some (.inl fs), some (.inl z46)] _ _ _
                refine hA_aload (zs_aload_n em226_49) rfl ?_
                refine hA_callV (as := []) (rest := []) (B' := (0, 0)) (zs_invV (T := TX12) em226_50 zl_151 rfl wd_1547 wd_1549 wd_56 ((congrFun xo_12 221).trans rfl) xm_144) rfl ⟨_, rfl⟩ (Nat.le_of_ble_eq_true rfl) rfl ⟨Nat.zero_le _, Nat.zero_le _⟩ (zpre_of zh_151 ⟨(by show 2 ≤ d; omega), ⟨_, _, rfl, rfl, rfl⟩, (hF_cons (lo := 0) (hi := 400) ⟨by omega, by omega⟩ (hF_cons (lo := 0) (hi := 2147483647) ⟨by omega, by exact an_hi _⟩ hF_nil)), fun h => by cases h⟩) (fun r50 I50 hp50 => ?_)
                obtain ⟨rfl, hN50⟩ := goes_q (by omega) (by omega) (zpost_of zh_151 hp50)
                have hT50 : tlP I I50 100 3 tlT := tlP_n hTJ1 (by omega) hN50 nFH_T
                clear b12a b12b b13 b23a b23b b16a b16b b17a b17b bz
                obtain ⟨⟨b12a, b12b⟩, b13, ⟨b23a, b23b⟩, ⟨b16a, b16b⟩, ⟨b17a, b17b⟩, bz⟩ := tlP_b hT50 (by omega)
                refine hA_aload (zs_aload_n em226_53) rfl ?_
                refine hA_getf2 (r := 96) (zs_getf (T := TX12) (M := 70) (ci := 12) (j := 44) em226_54 rfl inX12 (by decide) wd_1316 ((congrFun xo_12 79).trans rfl)) ⟨_, rfl, rfl⟩ ?_
                refine hA_aload (zs_aload_n em226_57) rfl ?_
                refine hA_getf0 (id := 16) (zs_getf (T := TX12) (M := 70) (ci := 12) (j := 43) em226_58 rfl inX12 (by decide) wd_1315 ((congrFun xo_12 239).trans rfl)) ⟨_, rfl, rfl⟩ (fun z58 hz58 => ?_)
                refine hA_const (k := 1) (zs_iconst (v := 1) em226_61 (by decide +kernel)) (by decide +kernel) (fun z61 hz61 => ?_)
                refine hA_zast (kd := 96) (len := 260) (zs_bast zInj0 em226_62) ⟨rfl, rfl, rfl⟩ (by omega) (by show _ < ((260 : Nat) : Int); omega) (by omega) (by omega) ?_
                refine hA_aload (zs_aload_n em226_63) rfl ?_
                refine hA_getf2 (r := 97) (zs_getf (T := TX12) (M := 70) (ci := 12) (j := 45) em226_64 rfl inX12 (by decide) wd_1317 ((congrFun xo_12 83).trans rfl)) ⟨_, rfl, rfl⟩ ?_
                refine hA_aload (zs_aload_n em226_67) rfl ?_
                refine hA_getf0 (id := 16) (zs_getf (T := TX12) (M := 70) (ci := 12) (j := 43) em226_68 rfl inX12 (by decide) wd_1315 ((congrFun xo_12 239).trans rfl)) ⟨_, rfl, rfl⟩ (fun z68 hz68 => ?_)
                rw [zf_arr _ _ _ _ _ (by decide)] at hz68
                refine hA_aload (zs_aload_n em226_71) rfl ?_
                refine hA_getf0 (id := 17) (zs_getf (T := TX12) (M := 70) (ci := 12) (j := 49) em226_72 rfl inX12 (by decide) wd_1321 ((congrFun xo_12 242).trans rfl)) ⟨_, rfl, rfl⟩ (fun z72 hz72 => ?_)
                rw [zf_arr _ _ _ _ _ (by decide)] at hz72
                refine hA_iast (kd := 97) (len := 260) (zs_iast zInj0 em226_75) ⟨rfl, rfl, rfl⟩ (by omega) (by show _ < ((260 : Nat) : Int); omega) ?_
                refine hA_aload (zs_aload_n em226_76) rfl ?_
                have hTa : tlP I (zupd I50 (zid 96 z58.toInt.toNat) z61) 100 3 tlT := tlP_st hT50 (by omega) ⟨by decide, by decide⟩ (by omega) (fun _ => ⟨by omega, by omega⟩) (fun _ _ => trivial)
                have hTs77 : tlP I (zupd (zupd I50 (zid 96 z58.toInt.toNat) z61) (zid 97 z68.toInt.toNat) z72) 100 3 tlB := tlP_st hTa (by omega) ⟨by decide, by decide⟩ (by rw [zf_arr _ _ _ _ _ (by decide)]; omega) (fun h => absurd h (by decide)) (fun _ _ => by unfold tlB; rw [zf_arr _ _ _ _ _ (by decide), zf_arr _ _ _ _ _ (by decide), zf_arr _ _ _ _ _ (by decide), zf_arr _ _ _ _ _ (by decide), show zf I50 16 = z68.toInt by omega, zv_at]; omega)
                clear b12a b12b b13 b23a b23b b16a b16b b17a b17b bz
                obtain ⟨⟨b12a, b12b⟩, b13, ⟨b23a, b23b⟩, ⟨b16a, b16b⟩, ⟨b17a, b17b⟩, bz⟩ := tlP_b hTs77 (by omega)
                refine hA_callV (as := []) (rest := []) (B' := (0, 0)) (zs_invV (T := TX12) em226_77 zl_262 rfl wd_1597 wd_1599 wd_67 ((congrFun xo_12 301).trans rfl) xm_230) rfl ⟨_, rfl⟩ (Nat.le_of_ble_eq_true rfl) rfl ⟨Nat.zero_le _, Nat.zero_le _⟩ (hpre_of rfl (show hpr_262 d [.inr (.inl (some 75))] (zupd (zupd I50 (zid 96 z58.toInt.toNat) z61) (zid 97 z68.toInt.toNat) z72) from ⟨by show 5 ≤ d; omega, rfl, ⟨⟨b12a, b12b⟩, b13, fun h => ⟨(bz h).1, by omega, b17a, (bz h).2.1⟩⟩⟩)) (fun r77 I77 hp77 => ?_)
                replace hp77 : hpo_262 _ _ _ _ := hpost_of rfl hp77
                replace hp77 := hp77 rfl
                obtain ⟨rfl, hX, hX1, hX2, hX3⟩ := hp77
                have hT77 : tlP I I77 100 4 tlC := tlP_x hTs77 (by omega) hX hX1 hX2 hX3 (fun h g => tlx1 hX (by omega) ⟨by omega, by omega⟩ (hX2 h).2.1 (hX2 h).2.2.2.2 g)
                clear hX1 hX2 hX3
                clear b12a b12b b13 b23a b23b b16a b16b b17a b17b bz
                obtain ⟨⟨b12a, b12b⟩, b13, ⟨b23a, b23b⟩, ⟨b16a, b16b⟩, ⟨b17a, b17b⟩, bz⟩ := tlP_b hT77 (by omega)
                refine hA_aload (zs_aload_n em226_80) rfl ?_
                refine hA_const (k := 13) (zs_bipush (v := 13) em226_81 (by decide +kernel)) (by decide +kernel) (fun z81 hz81 => ?_)
                refine hA_callV (as := [.inl z81]) (rest := []) (B' := (0, 0)) (zs_invV (T := TX12) em226_83 zl_196 rfl wd_1559 wd_1561 wd_59 ((congrFun xo_12 258).trans rfl) xm_169) rfl ⟨_, rfl⟩ (Nat.le_of_ble_eq_true rfl) rfl ⟨Nat.zero_le _, Nat.zero_le _⟩ (zpre_of zh_196 ⟨(by show 3 ≤ d; omega), ⟨_, _, rfl, rfl, ⟨_, _, rfl, ⟨_, rfl, show (0 : Int) ≤ z81.toInt by omega, show z81.toInt ≤ (40 : Int) by omega⟩, rfl⟩⟩, (hF_cons (lo := 0) (hi := 400) ⟨by omega, by omega⟩ (hF_cons (lo := 0) (hi := 2147483647) ⟨by omega, by exact an_hi _⟩ hF_nil)), fun _ => (tlP_i hT77)⟩) (fun r83 I83 hp83 => ?_)
                obtain ⟨rfl, hN83, hInv83⟩ := must_q (by omega) (zpost_of zh_196 hp83)
                have hT83 : tlP I I83 100 5 tlC := tlP_n hT77 (by omega) hN83 nFH_C
                clear b12a b12b b13 b23a b23b b16a b16b b17a b17b bz
                obtain ⟨⟨b12a, b12b⟩, b13, ⟨b23a, b23b⟩, ⟨b16a, b16b⟩, ⟨b17a, b17b⟩, bz⟩ := tlP_b hT83 (by omega)
                refine hA_aload (zs_aload_n em226_86) rfl ?_
                refine hA_getf2 (r := 98) (zs_getf (T := TX12) (M := 70) (ci := 12) (j := 46) em226_87 rfl inX12 (by decide) wd_1318 ((congrFun xo_12 86).trans rfl)) ⟨_, rfl, rfl⟩ ?_
                refine hA_aload (zs_aload_n em226_90) rfl ?_
                refine hA_getf0 (id := 16) (zs_getf (T := TX12) (M := 70) (ci := 12) (j := 43) em226_91 rfl inX12 (by decide) wd_1315 ((congrFun xo_12 239).trans rfl)) ⟨_, rfl, rfl⟩ (fun z91 hz91 => ?_)
                refine hA_aload (zs_aload_n em226_94) rfl ?_
                refine hA_getf0 (id := 17) (zs_getf (T := TX12) (M := 70) (ci := 12) (j := 49) em226_95 rfl inX12 (by decide) wd_1321 ((congrFun xo_12 242).trans rfl)) ⟨_, rfl, rfl⟩ (fun z95 hz95 => ?_)
                refine hA_iast (kd := 98) (len := 260) (zs_iast zInj0 em226_98) ⟨rfl, rfl, rfl⟩ (by omega) (by show _ < ((260 : Nat) : Int); omega) ?_
                have hTs107 : tlP I (zupd I83 (zid 98 z91.toInt.toNat) z95) 100 5 tlD := tlP_st hT83 (by omega) ⟨by decide, by decide⟩ (by omega) (fun h => absurd h (by decide)) (fun _ g => by
                  unfold tlC at g
                  unfold tlD tlC zprI
                  rw [zf_arr _ _ _ _ _ (by decide), zf_arr _ _ _ _ _ (by decide), zf_arr _ _ _ _ _ (by decide), zv_nk (by decide) (by omega) (by omega), show zf I83 16 = z91.toInt by omega, zv_at]
                  rw [show zf I83 16 = z91.toInt by omega] at g
                  exact ⟨zprI_cg (by omega) (fun j hj => ⟨zupd_fr (by unfold zid; omega), zupd_fr (by unfold zid; omega)⟩) g, by omega⟩)
                clear b12a b12b b13 b23a b23b b16a b16b b17a b17b bz
                obtain ⟨⟨b12a, b12b⟩, b13, ⟨b23a, b23b⟩, ⟨b16a, b16b⟩, ⟨b17a, b17b⟩, bz⟩ := tlP_b hTs107 (by omega)
                refine hA_aload (zs_aload_n em226_99) rfl ?_
                refine hA_getf0 (id := 13) (zs_getf (T := TX12) (M := 70) (ci := 12) (j := 27) em226_100 rfl inX12 (by decide) wd_1294 ((congrFun xo_12 200).trans rfl)) ⟨_, rfl, rfl⟩ (fun z100 hz100 => ?_)
                rw [zf_arr _ _ _ _ _ (by decide)] at hz100
                refine hA_if (zs_ifne em226_103 (t := 110) (by decide)) (fun (c103 : ¬ z100.toInt = 0) => ?_) (fun (c103 : ¬ ¬ z100.toInt = 0) => ?_)
                · exact tl_110 hc hd h16 ha0 ha1 hfs (fun J hT => ih _ (by omega) J z46 (by omega) (by omega) hT rfl) (tlP_any hTs107 (by rw [zf_arr _ _ _ _ _ (by decide)]; omega))
                · refine hA_aload (zs_aload_n em226_106) rfl ?_
                  clear b12a b12b b13 b23a b23b b16a b16b b17a b17b bz
                  obtain ⟨⟨b12a, b12b⟩, b13, ⟨b23a, b23b⟩, ⟨b16a, b16b⟩, ⟨b17a, b17b⟩, bz⟩ := tlP_b hTs107 (by omega)
                  refine hA_callV (as := []) (rest := []) (B' := (0, 0)) (zs_invV (T := TX12) em226_107 zl_262 rfl wd_1597 wd_1599 wd_67 ((congrFun xo_12 301).trans rfl) xm_230) rfl ⟨_, rfl⟩ (Nat.le_of_ble_eq_true rfl) rfl ⟨Nat.zero_le _, Nat.zero_le _⟩ (hpre_of rfl (show hpr_262 d [.inr (.inl (some 75))] (zupd I83 (zid 98 z91.toInt.toNat) z95) from ⟨by show 5 ≤ d; omega, rfl, ⟨⟨b12a, b12b⟩, b13, fun h => ⟨(bz h).1, by omega, b17a, (bz h).2.1⟩⟩⟩)) (fun r107 I107 hp107 => ?_)
                  replace hp107 : hpo_262 _ _ _ _ := hpost_of rfl hp107
                  replace hp107 := hp107 rfl
                  obtain ⟨rfl, hX, hX1, hX2, hX3⟩ := hp107
                  have hT107 : tlP I I107 100 6 tlE := tlP_x hTs107 (by omega) hX hX1 hX2 hX3 (fun h g => tlx2 hX (by omega) (by omega) (by omega) ⟨by omega, by omega⟩ (hX2 h).2.1 (hX2 h).2.2.2.2 g)
                  clear hX1 hX2 hX3
                  clear b12a b12b b13 b23a b23b b16a b16b b17a b17b bz
                  obtain ⟨⟨b12a, b12b⟩, b13, ⟨b23a, b23b⟩, ⟨b16a, b16b⟩, ⟨b17a, b17b⟩, bz⟩ := tlP_b hT107 (by omega)
                  exact tl_110 hc hd h16 ha0 ha1 hfs (fun J hT => ih _ (by omega) J z46 (by omega) (by omega) hT rfl) hT107
              · exfalso
                omega
            · refine hA_aload (zs_aload_n em226_33) rfl ?_
              refine hA_const (k := 2) (zs_iconst (v := 2) em226_34 (by decide +kernel)) (by decide +kernel) (fun z34 hz34 => ?_)
              refine hA_callV (as := [.inl z34]) (rest := []) (B' := (0, 0)) (zs_invV (T := TX12) em226_35 zl_140 rfl wd_1543 wd_1545 wd_55 ((congrFun xo_12 215).trans rfl) xm_133) rfl ⟨_, rfl⟩ (Nat.le_of_ble_eq_true rfl) rfl ⟨Nat.zero_le _, Nat.zero_le _⟩ (zpre_of zh_140 ⟨(by show 1 ≤ d; omega), ⟨_, _, rfl, rfl, ⟨_, _, rfl, ⟨_, rfl, show (1 : Int) ≤ z34.toInt by omega, show z34.toInt ≤ (6 : Int) by omega⟩, rfl⟩⟩, (hF_cons (lo := 0) (hi := 400) ⟨by omega, by omega⟩ (hF_cons (lo := 0) (hi := 2147483647) ⟨by omega, by exact an_hi _⟩ hF_nil)), fun h => by cases h⟩) (fun r35 I35 hp35 => ?_)
              obtain ⟨rfl, hN35, hX35⟩ := fail_q (by omega) (zpost_of zh_140 hp35)
              have hN351 := hN35.2.1
              have hN352 := hN35.2.2.1
              have hN353 := hN35.2.2.2.1
              have hN354 := hN35.2.2.2.2
              refine hA_aload (zs_aload_n em226_38) rfl ?_
              refine hA_getf0 (id := 13) (zs_getf (T := TX12) (M := 70) (ci := 12) (j := 27) em226_39 rfl inX12 (by decide) wd_1294 ((congrFun xo_12 200).trans rfl)) ⟨_, rfl, rfl⟩ (fun z39' hz39' => ?_)
              refine hA_if (zs_ifle em226_42 (t := 46) (by decide)) (fun (c42' : z39'.toInt ≤ 0) => ?_) (fun (c42' : ¬ z39'.toInt ≤ 0) => ?_)
              · exfalso
                omega
              · refine hA_return ⟨rfl, em226_45⟩ ⟨Nat.le_refl _, Nat.le_refl _⟩ ?_
                intro a' he
                cases he
                exact ⟨rfl, tlP_ret (tlP_n hTJ (by omega) hN35 nFH_T) (by omega) (by omega)⟩
        · refine hA_if (zs_ifeq em226_25 (t := 129) (by decide)) (fun (c25' : z22.toInt = 0) => ?_) (fun (c25' : ¬ z22.toInt = 0) => ?_)
          · exact tl_129 hc hd h16 ha0 ha1 hfs hTJ
          · exfalso
            omega
  exact loop _ _ z10 (by omega) (by omega) hT2 rfl
