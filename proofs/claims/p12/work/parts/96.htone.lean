/-- fields 12, 13 alone change -/
theorem one_i {I : zI} {a b : Int32} (hS : pS I 100) (hG : pG I 0) (ha : 0 ≤ a.toInt ∧ a.toInt ≤ 400) (hb : 0 ≤ b.toInt) (hz : b.toInt = 0 → zf I 12 + 1 ≤ a.toInt) : sFr I (zupd (zupd I 12 a) 13 b) ∧ pS (zupd (zupd I 12 a) 13 b) 110 ∧ (zf (zupd (zupd I 12 a) 13 b) 13 = 0 → zf I 12 + 1 ≤ zf (zupd (zupd I 12 a) 13 b) 12 ∧ pG (zupd (zupd I 12 a) 13 b) 0) := by
  have e12 : zf (zupd (zupd I 12 a) 13 b) 12 = a.toInt := by rw [zf_ne (by decide), zf_same]
  have e13 : zf (zupd (zupd I 12 a) 13 b) 13 = b.toInt := zf_same
  have e : ∀ f, f ≠ 12 → f ≠ 13 → zf (zupd (zupd I 12 a) 13 b) f = zf I f := fun f h1 h2 => by rw [zf_ne h2, zf_ne h1]
  have ek : ∀ kd i, zupd (zupd I 12 a) 13 b (zid kd i) = I (zid kd i) := fun kd i => (zupd_fr (by unfold zid; omega)).trans (zupd_fr (by unfold zid; omega))
  obtain ⟨s1, s2, s3, s4, s5, s6, s7, s8⟩ := hS
  obtain ⟨g1, g2, g3, g4, g5⟩ := hG
  have hI : zInv (zupd (zupd I 12 a) 13 b) := zextp _ 13 _ rfl (by decide) (zextp _ 12 _ rfl (by decide) s1)
  have e22 := e 22 (by decide) (by decide)
  have e23 := e 23 (by decide) (by decide)
  have e14 := e 14 (by decide) (by decide)
  have e15 := e 15 (by decide) (by decide)
  have e16 := e 16 (by decide) (by decide)
  have e17 := e 17 (by decide) (by decide)
  refine ⟨⟨fun id _ q => (zupd_fr (by omega)).trans (zupd_fr (by omega)), fun kd i _ _ _ _ => ek kd i, fun k _ => ⟨ek _ _, ek _ _⟩, fun b _ _ kd _ _ => ek _ _, fun c _ _ => ⟨ek _ _, ek _ _⟩⟩, ⟨hI, by omega, by omega, by omega, by omega, by omega, by omega, by omega⟩, fun q => ?_⟩
  have hz' := hz (by omega)
  refine ⟨by omega, by omega, by omega, ?_, sL_vs e16 e17 e23 (fun kd i _ _ _ => ek kd i) (by omega) (by omega) g4, by omega⟩
  rw [e15, e23]
  unfold zv
  rw [ek, ek]
  exact g3
theorem one_n {I J : zI} (hS : pS I 100) (hn : nF I J) (hf : ¬ zf J 13 = 0) : sFr I J ∧ pS J 110 ∧ (zf J 13 = 0 → zf I 12 + 1 ≤ zf J 12 ∧ pG J 0) := by
  have h := pS_n hS hn
  exact ⟨sFr_n hn, pS_mo h (by have := h.2.2.2.2.2.2.1; omega), fun q => absurd q hf⟩
theorem one_t {I J J' : zI} (hn : nF I J) (h : sFr J J' ∧ pS J' 110 ∧ (zf J' 13 = 0 → zf J 12 + 1 ≤ zf J' 12 ∧ pG J' 0)) : sFr I J' ∧ pS J' 110 ∧ (zf J' 13 = 0 → zf I 12 + 1 ≤ zf J' 12 ∧ pG J' 0) := ⟨sFr_tr (sFr_n hn) h.1, h.2.1, fun q => ⟨by have := (h.2.2 q).1; have := hn.2.2.1.1; omega, (h.2.2 q).2⟩⟩
theorem em219_0 : decode prog_14_method_24_code 0 = .ok (.aload_n 0, 1) := by decide +kernel
theorem em219_1 : decode prog_14_method_24_code 1 = .ok (.getfield 20, 3) := by decide +kernel
theorem em219_4 : decode prog_14_method_24_code 4 = .ok (.aload_n 0, 1) := by decide +kernel
theorem em219_5 : decode prog_14_method_24_code 5 = .ok (.getfield 203, 3) := by decide +kernel
theorem em219_8 : decode prog_14_method_24_code 8 = .ok (.iaload, 1) := by decide +kernel
theorem em219_9 : decode prog_14_method_24_code 9 = .ok (.tableswitch 166 20 28 #[51, 79, 166, 166, 166, 166, 108, 127, 146], 51) := by decide +kernel
theorem em219_60 : decode prog_14_method_24_code 60 = .ok (.aload_n 0, 1) := by decide +kernel
theorem em219_61 : decode prog_14_method_24_code 61 = .ok (.aload_n 0, 1) := by decide +kernel
theorem em219_62 : decode prog_14_method_24_code 62 = .ok (.getfield 43, 3) := by decide +kernel
theorem em219_65 : decode prog_14_method_24_code 65 = .ok (.aload_n 0, 1) := by decide +kernel
theorem em219_66 : decode prog_14_method_24_code 66 = .ok (.getfield 233, 3) := by decide +kernel
theorem em219_69 : decode prog_14_method_24_code 69 = .ok (.iaload, 1) := by decide +kernel
theorem em219_70 : decode prog_14_method_24_code 70 = .ok (.iconst 5, 1) := by decide +kernel
theorem em219_71 : decode prog_14_method_24_code 71 = .ok (.invokevirtual 261, 3) := by decide +kernel
theorem em219_74 : decode prog_14_method_24_code 74 = .ok (.aload_n 0, 1) := by decide +kernel
theorem em219_75 : decode prog_14_method_24_code 75 = .ok (.getfield 200, 3) := by decide +kernel
theorem em219_78 : decode prog_14_method_24_code 78 = .ok (.ifCond .ne 150, 3) := by decide +kernel
theorem em219_81 : decode prog_14_method_24_code 81 = .ok (.aload_n 0, 1) := by decide +kernel
theorem em219_82 : decode prog_14_method_24_code 82 = .ok (.invokevirtual 265, 3) := by decide +kernel
theorem em219_85 : decode prog_14_method_24_code 85 = .ok (.goto 143, 3) := by decide +kernel
theorem em219_88 : decode prog_14_method_24_code 88 = .ok (.aload_n 0, 1) := by decide +kernel
theorem em219_89 : decode prog_14_method_24_code 89 = .ok (.aload_n 0, 1) := by decide +kernel
theorem em219_90 : decode prog_14_method_24_code 90 = .ok (.getfield 49, 3) := by decide +kernel
theorem em219_93 : decode prog_14_method_24_code 93 = .ok (.aload_n 0, 1) := by decide +kernel
theorem em219_94 : decode prog_14_method_24_code 94 = .ok (.getfield 233, 3) := by decide +kernel
theorem em219_97 : decode prog_14_method_24_code 97 = .ok (.iaload, 1) := by decide +kernel
theorem em219_98 : decode prog_14_method_24_code 98 = .ok (.bipush 7, 2) := by decide +kernel
theorem em219_100 : decode prog_14_method_24_code 100 = .ok (.invokevirtual 261, 3) := by decide +kernel
theorem em219_103 : decode prog_14_method_24_code 103 = .ok (.aload_n 0, 1) := by decide +kernel
theorem em219_104 : decode prog_14_method_24_code 104 = .ok (.getfield 200, 3) := by decide +kernel
theorem em219_107 : decode prog_14_method_24_code 107 = .ok (.ifCond .ne 121, 3) := by decide +kernel
theorem em219_110 : decode prog_14_method_24_code 110 = .ok (.aload_n 0, 1) := by decide +kernel
theorem em219_111 : decode prog_14_method_24_code 111 = .ok (.invokevirtual 268, 3) := by decide +kernel
theorem em219_114 : decode prog_14_method_24_code 114 = .ok (.goto 114, 3) := by decide +kernel
theorem em219_117 : decode prog_14_method_24_code 117 = .ok (.aload_n 0, 1) := by decide +kernel
theorem em219_118 : decode prog_14_method_24_code 118 = .ok (.getfield 64, 3) := by decide +kernel
theorem em219_121 : decode prog_14_method_24_code 121 = .ok (.aload_n 0, 1) := by decide +kernel
theorem em219_122 : decode prog_14_method_24_code 122 = .ok (.getfield 233, 3) := by decide +kernel
theorem em219_125 : decode prog_14_method_24_code 125 = .ok (.aload_n 0, 1) := by decide +kernel
theorem em219_126 : decode prog_14_method_24_code 126 = .ok (.iconst 1, 1) := by decide +kernel
theorem em219_127 : decode prog_14_method_24_code 127 = .ok (.bipush 99, 2) := by decide +kernel
theorem em219_129 : decode prog_14_method_24_code 129 = .ok (.invokevirtual 271, 3) := by decide +kernel
theorem em219_132 : decode prog_14_method_24_code 132 = .ok (.iastore, 1) := by decide +kernel
theorem em219_133 : decode prog_14_method_24_code 133 = .ok (.goto 95, 3) := by decide +kernel
theorem em219_136 : decode prog_14_method_24_code 136 = .ok (.aload_n 0, 1) := by decide +kernel
theorem em219_137 : decode prog_14_method_24_code 137 = .ok (.getfield 67, 3) := by decide +kernel
theorem em219_140 : decode prog_14_method_24_code 140 = .ok (.aload_n 0, 1) := by decide +kernel
theorem em219_141 : decode prog_14_method_24_code 141 = .ok (.getfield 233, 3) := by decide +kernel
theorem em219_144 : decode prog_14_method_24_code 144 = .ok (.aload_n 0, 1) := by decide +kernel
theorem em219_145 : decode prog_14_method_24_code 145 = .ok (.iconst 0, 1) := by decide +kernel
theorem em219_146 : decode prog_14_method_24_code 146 = .ok (.bipush 100, 2) := by decide +kernel
theorem em219_148 : decode prog_14_method_24_code 148 = .ok (.invokevirtual 271, 3) := by decide +kernel
theorem em219_151 : decode prog_14_method_24_code 151 = .ok (.iastore, 1) := by decide +kernel
theorem em219_152 : decode prog_14_method_24_code 152 = .ok (.goto 76, 3) := by decide +kernel
theorem em219_155 : decode prog_14_method_24_code 155 = .ok (.aload_n 0, 1) := by decide +kernel
theorem em219_156 : decode prog_14_method_24_code 156 = .ok (.getfield 70, 3) := by decide +kernel
theorem em219_159 : decode prog_14_method_24_code 159 = .ok (.aload_n 0, 1) := by decide +kernel
theorem em219_160 : decode prog_14_method_24_code 160 = .ok (.getfield 233, 3) := by decide +kernel
theorem em219_163 : decode prog_14_method_24_code 163 = .ok (.aload_n 0, 1) := by decide +kernel
theorem em219_164 : decode prog_14_method_24_code 164 = .ok (.iconst 0, 1) := by decide +kernel
theorem em219_165 : decode prog_14_method_24_code 165 = .ok (.sipush 9999, 3) := by decide +kernel
theorem em219_168 : decode prog_14_method_24_code 168 = .ok (.invokevirtual 271, 3) := by decide +kernel
theorem em219_171 : decode prog_14_method_24_code 171 = .ok (.iastore, 1) := by decide +kernel
theorem em219_172 : decode prog_14_method_24_code 172 = .ok (.goto 56, 3) := by decide +kernel
theorem em219_175 : decode prog_14_method_24_code 175 = .ok (.aload_n 0, 1) := by decide +kernel
theorem em219_176 : decode prog_14_method_24_code 176 = .ok (.getfield 20, 3) := by decide +kernel
theorem em219_179 : decode prog_14_method_24_code 179 = .ok (.aload_n 0, 1) := by decide +kernel
theorem em219_180 : decode prog_14_method_24_code 180 = .ok (.getfield 203, 3) := by decide +kernel
theorem em219_183 : decode prog_14_method_24_code 183 = .ok (.iaload, 1) := by decide +kernel
theorem em219_184 : decode prog_14_method_24_code 184 = .ok (.bipush 22, 2) := by decide +kernel
theorem em219_186 : decode prog_14_method_24_code 186 = .ok (.isub, 1) := by decide +kernel
theorem em219_187 : decode prog_14_method_24_code 187 = .ok (.istore_n 1, 1) := by decide +kernel
theorem em219_188 : decode prog_14_method_24_code 188 = .ok (.iload_n 1, 1) := by decide +kernel
theorem em219_189 : decode prog_14_method_24_code 189 = .ok (.ifCond .lt 17, 3) := by decide +kernel
theorem em219_192 : decode prog_14_method_24_code 192 = .ok (.aload_n 0, 1) := by decide +kernel
theorem em219_193 : decode prog_14_method_24_code 193 = .ok (.getfield 20, 3) := by decide +kernel
theorem em219_196 : decode prog_14_method_24_code 196 = .ok (.aload_n 0, 1) := by decide +kernel
theorem em219_197 : decode prog_14_method_24_code 197 = .ok (.getfield 203, 3) := by decide +kernel
theorem em219_200 : decode prog_14_method_24_code 200 = .ok (.iaload, 1) := by decide +kernel
theorem em219_201 : decode prog_14_method_24_code 201 = .ok (.bipush 25, 2) := by decide +kernel
theorem em219_203 : decode prog_14_method_24_code 203 = .ok (.if_icmp .le 8, 3) := by decide +kernel
theorem em219_206 : decode prog_14_method_24_code 206 = .ok (.aload_n 0, 1) := by decide +kernel
theorem em219_207 : decode prog_14_method_24_code 207 = .ok (.iconst 1, 1) := by decide +kernel
theorem em219_208 : decode prog_14_method_24_code 208 = .ok (.invokevirtual 215, 3) := by decide +kernel
theorem em219_211 : decode prog_14_method_24_code 211 = .ok (.aload_n 0, 1) := by decide +kernel
theorem em219_212 : decode prog_14_method_24_code 212 = .ok (.getfield 200, 3) := by decide +kernel
theorem em219_215 : decode prog_14_method_24_code 215 = .ok (.ifCond .le 4, 3) := by decide +kernel
theorem em219_218 : decode prog_14_method_24_code 218 = .ok (.return_, 1) := by decide +kernel
theorem em219_219 : decode prog_14_method_24_code 219 = .ok (.aload_n 0, 1) := by decide +kernel
theorem em219_220 : decode prog_14_method_24_code 220 = .ok (.invokevirtual 221, 3) := by decide +kernel
theorem em219_223 : decode prog_14_method_24_code 223 = .ok (.aload_n 0, 1) := by decide +kernel
theorem em219_224 : decode prog_14_method_24_code 224 = .ok (.iload_n 1, 1) := by decide +kernel
theorem em219_225 : decode prog_14_method_24_code 225 = .ok (.invokevirtual 274, 3) := by decide +kernel
theorem em219_228 : decode prog_14_method_24_code 228 = .ok (.return_, 1) := by decide +kernel
set_option maxRecDepth 10000 in
set_option maxHeartbeats 4000000 in
theorem hM_251 : zOKx 251 := by
  intro d hc as I q h hq
  have h : hpr_251 (d + 1) as I := h
  obtain ⟨hd, rfl, hpre⟩ := h
  cases (show some _ = some q from hq)
  obtain ⟨hS, h13, hG⟩ := hpre
  obtain ⟨-, ⟨h12a, h12b⟩, h13a, h23, ⟨h22a, h22b⟩, -, -, -⟩ := id hS
  have qE := (eE_of hS.1).1 (zf I 23).toNat (by omega)
  have q84 : 0 ≤ zv I 84 (zf I 23) ∧ zv I 84 (zf I 23) ≤ 5 := qE.1
  have q86 : 0 ≤ zv I 86 (zf I 23) ∧ zv I 86 (zf I 23) ≤ 7 := qE.2
  clear qE
  have q78 : 0 ≤ zv I 78 (zf I 12) ∧ zv I 78 (zf I 12) ≤ 40 := eall rfl (hS.1.1 78 (zf I 12).toNat 0 403 rfl rfl (by omega))
  have h175 : zAt zG0 PZ zbd zpre zpost (d, (zbd 251).1, (zbd 251).2) prog_14_method_24_code "CapitalCaseModel" (zRet prog_14_method_24_code none (zbd 251) (hpost 251 [.inr (.inl (some 75))] I)) 175 [some (.inr (.inl (some 75))), none] [] I (0, 0) := by
    refine hA_aload (zs_aload_n em219_175) rfl ?_
    refine hA_getf2 (r := 78) (zs_getf (T := TX12) (M := 70) (ci := 12) (j := 19) em219_176 rfl inX12 (by decide) wd_1286 ((congrFun xo_12 20).trans rfl)) ⟨_, rfl, rfl⟩ ?_
    refine hA_aload (zs_aload_n em219_179) rfl ?_
    refine hA_getf0 (id := 12) (zs_getf (T := TX12) (M := 70) (ci := 12) (j := 25) em219_180 rfl inX12 (by decide) wd_1292 ((congrFun xo_12 203).trans rfl)) ⟨_, rfl, rfl⟩ (fun z180 hz180 => ?_)
    refine hA_iald (kd := 78) (len := 403) (zs_iald em219_183) ⟨rfl, rfl, rfl⟩ (by omega) (by show _ < ((403 : Nat) : Int); omega) (fun z183 hz183 => ?_)
    rw [hz180] at hz183
    refine hA_const (k := 22) (zs_bipush (v := 22) em219_184 (by decide +kernel)) (by decide +kernel) (fun z184 hz184 => ?_)
    refine hA_sub (zs_isub em219_186) (by omega) (by omega) (fun z186 hz186 => ?_)
    refine hA_istore (L' := [some (.inr (.inl (some 75))), some (.inl z186)]) (zs_istore_n em219_187) ⟨Nat.le_of_ble_eq_true rfl, rfl⟩ rfl ?_
    refine hA_iload (zs_iload_n em219_188) rfl ?_
    refine hA_if (zs_iflt em219_189 (t := 206) (by decide)) (fun (c189 : z186.toInt < 0) => ?_) (fun (c189 : ¬ z186.toInt < 0) => ?_)
    · refine hA_aload (zs_aload_n em219_206) rfl ?_
      refine hA_const (k := 1) (zs_iconst (v := 1) em219_207 (by decide +kernel)) (by decide +kernel) (fun z207 hz207 => ?_)
      refine hA_callV (as := [.inl z207]) (rest := []) (B' := (0, 0)) (zs_invV (T := TX12) em219_208 zl_140 rfl wd_1543 wd_1545 wd_55 ((congrFun xo_12 215).trans rfl) xm_133) rfl ⟨_, rfl⟩ (Nat.le_of_ble_eq_true rfl) rfl ⟨Nat.zero_le _, Nat.zero_le _⟩ (zpre_of zh_140 ⟨(by show 1 ≤ d; omega), ⟨_, _, rfl, rfl, ⟨_, _, rfl, ⟨_, rfl, show (1 : Int) ≤ z207.toInt by omega, show z207.toInt ≤ (6 : Int) by omega⟩, rfl⟩⟩, (hF_cons (lo := 0) (hi := 400) ⟨by omega, by omega⟩ (hF_cons (lo := 0) (hi := 2147483647) ⟨by omega, by exact an_hi _⟩ hF_nil)), fun h => by cases h⟩) (fun r208 I208 hp208 => ?_)
      obtain ⟨rfl, hN208, hX208⟩ := fail_q (by omega) (zpost_of zh_140 hp208)
      have hN2081 := hN208.2.1
      have hN2082 := hN208.2.2.1
      have hN2083 := hN208.2.2.2.1
      have hN2084 := hN208.2.2.2.2
      refine hA_aload (zs_aload_n em219_211) rfl ?_
      refine hA_getf0 (id := 13) (zs_getf (T := TX12) (M := 70) (ci := 12) (j := 27) em219_212 rfl inX12 (by decide) wd_1294 ((congrFun xo_12 200).trans rfl)) ⟨_, rfl, rfl⟩ (fun z212 hz212 => ?_)
      refine hA_if (zs_ifle em219_215 (t := 219) (by decide)) (fun (c215 : z212.toInt ≤ 0) => ?_) (fun (c215 : ¬ z212.toInt ≤ 0) => ?_)
      · exfalso
        omega
      · refine hA_return ⟨rfl, em219_218⟩ ⟨Nat.le_refl _, Nat.le_refl _⟩ ?_
        intro he
        cases he
        exact ⟨rfl, one_n hS hN208 (by omega)⟩
    · refine hA_aload (zs_aload_n em219_192) rfl ?_
      refine hA_getf2 (r := 78) (zs_getf (T := TX12) (M := 70) (ci := 12) (j := 19) em219_193 rfl inX12 (by decide) wd_1286 ((congrFun xo_12 20).trans rfl)) ⟨_, rfl, rfl⟩ ?_
      refine hA_aload (zs_aload_n em219_196) rfl ?_
      refine hA_getf0 (id := 12) (zs_getf (T := TX12) (M := 70) (ci := 12) (j := 25) em219_197 rfl inX12 (by decide) wd_1292 ((congrFun xo_12 203).trans rfl)) ⟨_, rfl, rfl⟩ (fun z197 hz197 => ?_)
      refine hA_iald (kd := 78) (len := 403) (zs_iald em219_200) ⟨rfl, rfl, rfl⟩ (by omega) (by show _ < ((403 : Nat) : Int); omega) (fun z200 hz200 => ?_)
      rw [hz197] at hz200
      refine hA_const (k := 25) (zs_bipush (v := 25) em219_201 (by decide +kernel)) (by decide +kernel) (fun z201 hz201 => ?_)
      refine hA_icmp (zs_icmple em219_203 (t := 211) (by decide)) (fun (c203 : z200.toInt ≤ z201.toInt) => ?_) (fun (c203 : ¬ z200.toInt ≤ z201.toInt) => ?_)
      · refine hA_aload (zs_aload_n em219_211) rfl ?_
        refine hA_getf0 (id := 13) (zs_getf (T := TX12) (M := 70) (ci := 12) (j := 27) em219_212 rfl inX12 (by decide) wd_1294 ((congrFun xo_12 200).trans rfl)) ⟨_, rfl, rfl⟩ (fun z212' hz212' => ?_)
        refine hA_if (zs_ifle em219_215 (t := 219) (by decide)) (fun (c215' : z212'.toInt ≤ 0) => ?_) (fun (c215' : ¬ z212'.toInt ≤ 0) => ?_)
        · refine hA_aload (zs_aload_n em219_219) rfl ?_
          refine hA_callV (as := []) (rest := []) (B' := (0, 0)) (zs_invV (T := TX12) em219_220 zl_151 rfl wd_1547 wd_1549 wd_56 ((congrFun xo_12 221).trans rfl) xm_144) rfl ⟨_, rfl⟩ (Nat.le_of_ble_eq_true rfl) rfl ⟨Nat.zero_le _, Nat.zero_le _⟩ (zpre_of zh_151 ⟨(by show 2 ≤ d; omega), ⟨_, _, rfl, rfl, rfl⟩, (hF_cons (lo := 0) (hi := 400) ⟨by omega, by omega⟩ (hF_cons (lo := 0) (hi := 2147483647) ⟨by omega, by exact an_hi _⟩ hF_nil)), fun h => by cases h⟩) (fun r220 I220 hp220 => ?_)
          obtain ⟨rfl, hN220⟩ := goes_q (by omega) (by omega) (zpost_of zh_151 hp220)
          refine hA_aload (zs_aload_n em219_223) rfl ?_
          refine hA_iload (zs_iload_n em219_224) rfl ?_
          refine hA_callV (as := [.inl z186]) (rest := []) (B' := (0, 0)) (zs_invV (T := TX12) em219_225 zl_258 rfl wd_1593 wd_1595 wd_66 ((congrFun xo_12 274).trans rfl) xm_226) rfl ⟨_, rfl⟩ (Nat.le_of_ble_eq_true rfl) rfl ⟨Nat.zero_le _, Nat.zero_le _⟩ (hpre_of rfl (show hpr_258 d [.inr (.inl (some 75)), .inl z186] I220 from ⟨by show 8 ≤ d; omega, z186, rfl, ⟨pS_n hS hN220, fun h => pG_n hS (by omega) hG hN220 h, by omega, by omega⟩⟩)) (fun r225 I225 hp225 => ?_)
          replace hp225 : hpo_258 _ _ _ _ := hpost_of rfl hp225
          replace hp225 := hp225 z186 rfl
          obtain ⟨rfl, hTP⟩ := hp225
          replace hTP := one_t hN220 hTP
          refine hA_return ⟨rfl, em219_228⟩ ⟨Nat.le_refl _, Nat.le_refl _⟩ ?_
          intro he
          cases he
          exact ⟨rfl, hTP⟩
        · exfalso
          omega
      · refine hA_aload (zs_aload_n em219_206) rfl ?_
        refine hA_const (k := 1) (zs_iconst (v := 1) em219_207 (by decide +kernel)) (by decide +kernel) (fun z207' hz207' => ?_)
        refine hA_callV (as := [.inl z207']) (rest := []) (B' := (0, 0)) (zs_invV (T := TX12) em219_208 zl_140 rfl wd_1543 wd_1545 wd_55 ((congrFun xo_12 215).trans rfl) xm_133) rfl ⟨_, rfl⟩ (Nat.le_of_ble_eq_true rfl) rfl ⟨Nat.zero_le _, Nat.zero_le _⟩ (zpre_of zh_140 ⟨(by show 1 ≤ d; omega), ⟨_, _, rfl, rfl, ⟨_, _, rfl, ⟨_, rfl, show (1 : Int) ≤ z207'.toInt by omega, show z207'.toInt ≤ (6 : Int) by omega⟩, rfl⟩⟩, (hF_cons (lo := 0) (hi := 400) ⟨by omega, by omega⟩ (hF_cons (lo := 0) (hi := 2147483647) ⟨by omega, by exact an_hi _⟩ hF_nil)), fun h => by cases h⟩) (fun r208 I208 hp208 => ?_)
        obtain ⟨rfl, hN208, hX208⟩ := fail_q (by omega) (zpost_of zh_140 hp208)
        have hN2081 := hN208.2.1
        have hN2082 := hN208.2.2.1
        have hN2083 := hN208.2.2.2.1
        have hN2084 := hN208.2.2.2.2
        refine hA_aload (zs_aload_n em219_211) rfl ?_
        refine hA_getf0 (id := 13) (zs_getf (T := TX12) (M := 70) (ci := 12) (j := 27) em219_212 rfl inX12 (by decide) wd_1294 ((congrFun xo_12 200).trans rfl)) ⟨_, rfl, rfl⟩ (fun z212'' hz212'' => ?_)
        refine hA_if (zs_ifle em219_215 (t := 219) (by decide)) (fun (c215'' : z212''.toInt ≤ 0) => ?_) (fun (c215'' : ¬ z212''.toInt ≤ 0) => ?_)
        · exfalso
          omega
        · refine hA_return ⟨rfl, em219_218⟩ ⟨Nat.le_refl _, Nat.le_refl _⟩ ?_
          intro he
          cases he
          exact ⟨rfl, one_n hS hN208 (by omega)⟩
  refine hmet (L := [some (.inr (.inl (some 75))), none]) (by decide) (Nat.le_of_ble_eq_true rfl) hc rfl ?_
  refine hA_aload (zs_aload_n em219_0) rfl ?_
  refine hA_getf2 (r := 78) (zs_getf (T := TX12) (M := 70) (ci := 12) (j := 19) em219_1 rfl inX12 (by decide) wd_1286 ((congrFun xo_12 20).trans rfl)) ⟨_, rfl, rfl⟩ ?_
  refine hA_aload (zs_aload_n em219_4) rfl ?_
  refine hA_getf0 (id := 12) (zs_getf (T := TX12) (M := 70) (ci := 12) (j := 25) em219_5 rfl inX12 (by decide) wd_1292 ((congrFun xo_12 203).trans rfl)) ⟨_, rfl, rfl⟩ (fun z5 hz5 => ?_)
  refine hA_iald (kd := 78) (len := 403) (zs_iald em219_8) ⟨rfl, rfl, rfl⟩ (by omega) (by show _ < ((403 : Nat) : Int); omega) (fun z8 hz8 => ?_)
  rw [hz5] at hz8
  refine hA_tsw (zs_tsw (ts := [60, 88, 175, 175, 175, 175, 117, 136, 155]) (df := 175) em219_9 (by decide +kernel) (by decide +kernel) (ztsw (by decide +kernel) (by decide +kernel))) ?_
  refine And.intro (fun (c9_0 : z8.toInt = 20) => ?_) (fun (c9_0 : ¬ z8.toInt = 20) => ?_)
  · show zAt _ _ _ _ _ _ _ _ _ 60 _ _ _ _
    refine hA_aload (zs_aload_n em219_60) rfl ?_
    refine hA_aload (zs_aload_n em219_61) rfl ?_
    refine hA_getf2 (r := 84) (zs_getf (T := TX12) (M := 70) (ci := 12) (j := 3) em219_62 rfl inX12 (by decide) wd_1303 ((congrFun xo_12 43).trans rfl)) ⟨_, rfl, rfl⟩ ?_
    refine hA_aload (zs_aload_n em219_65) rfl ?_
    refine hA_getf0 (id := 23) (zs_getf (T := TX12) (M := 70) (ci := 12) (j := 32) em219_66 rfl inX12 (by decide) wd_1300 ((congrFun xo_12 233).trans rfl)) ⟨_, rfl, rfl⟩ (fun z66 hz66 => ?_)
    refine hA_iald (kd := 84) (len := 2) (zs_iald em219_69) ⟨rfl, rfl, rfl⟩ (by omega) (by show _ < ((2 : Nat) : Int); omega) (fun z69 hz69 => ?_)
    rw [hz66] at hz69
    refine hA_const (k := 5) (zs_iconst (v := 5) em219_70 (by decide +kernel)) (by decide +kernel) (fun z70 hz70 => ?_)
    refine hA_callV (as := [.inl z69, .inl z70]) (rest := []) (B' := (0, 0)) (zs_invV (T := TX12) em219_71 zl_286 rfl wd_1539 wd_1541 wd_54 ((congrFun xo_12 261).trans rfl) xm_183) rfl ⟨_, rfl⟩ (Nat.le_of_ble_eq_true rfl) rfl ⟨Nat.zero_le _, Nat.zero_le _⟩ (hpre_of rfl (show hpr_286 d [.inr (.inl (some 75)), .inl z69, .inl z70] I from ⟨by show 3 ≤ d; omega, z69, z70, rfl, ⟨⟨h12a, h12b⟩, h13a⟩⟩)) (fun r71 I71 hp71 => ?_)
    replace hp71 : hpo_286 _ _ _ _ := hpost_of rfl hp71
    replace hp71 := hp71 z69 z70 rfl
    obtain ⟨rfl, hN71, hR71⟩ := hp71
    refine hA_aload (zs_aload_n em219_74) rfl ?_
    refine hA_getf0 (id := 13) (zs_getf (T := TX12) (M := 70) (ci := 12) (j := 27) em219_75 rfl inX12 (by decide) wd_1294 ((congrFun xo_12 200).trans rfl)) ⟨_, rfl, rfl⟩ (fun z75 hz75 => ?_)
    refine hA_if (zs_ifne em219_78 (t := 228) (by decide)) (fun (c78 : ¬ z75.toInt = 0) => ?_) (fun (c78 : ¬ ¬ z75.toInt = 0) => ?_)
    · refine hA_return ⟨rfl, em219_228⟩ ⟨Nat.le_refl _, Nat.le_refl _⟩ ?_
      intro he
      cases he
      exact ⟨rfl, one_n hS hN71 (by omega)⟩
    · refine hA_aload (zs_aload_n em219_81) rfl ?_
      refine hA_callV (as := []) (rest := []) (B' := (0, 0)) (zs_invV (T := TX12) em219_82 zl_256 rfl wd_1551 wd_1553 wd_57 ((congrFun xo_12 265).trans rfl) xm_224) rfl ⟨_, rfl⟩ (Nat.le_of_ble_eq_true rfl) rfl ⟨Nat.zero_le _, Nat.zero_le _⟩ (hpre_of rfl (show hpr_256 d [.inr (.inl (some 75))] I71 from ⟨by show 8 ≤ d; omega, rfl, ⟨pS_n hS hN71, by omega, pG_mo (pG_n hS (by omega) hG hN71 (by omega)) (by omega), by have h1 := hR71 (by omega); rw [zf_nF hN71 (by decide) (by decide), zv_nF hN71]; omega⟩⟩)) (fun r82 I82 hp82 => ?_)
      replace hp82 : hpo_256 _ _ _ _ := hpost_of rfl hp82
      replace hp82 := hp82 rfl
      obtain ⟨rfl, hTP⟩ := hp82
      replace hTP := one_t hN71 hTP
      refine hA_goto (zs_goto em219_85 (t := 228) (by decide)) ?_
      refine hA_return ⟨rfl, em219_228⟩ ⟨Nat.le_refl _, Nat.le_refl _⟩ ?_
      intro he
      cases he
      exact ⟨rfl, hTP⟩
  refine And.intro (fun (c9_1 : z8.toInt = 21) => ?_) (fun (c9_1 : ¬ z8.toInt = 21) => ?_)
  · show zAt _ _ _ _ _ _ _ _ _ 88 _ _ _ _
    refine hA_aload (zs_aload_n em219_88) rfl ?_
    refine hA_aload (zs_aload_n em219_89) rfl ?_
    refine hA_getf2 (r := 86) (zs_getf (T := TX12) (M := 70) (ci := 12) (j := 4) em219_90 rfl inX12 (by decide) wd_1305 ((congrFun xo_12 49).trans rfl)) ⟨_, rfl, rfl⟩ ?_
    refine hA_aload (zs_aload_n em219_93) rfl ?_
    refine hA_getf0 (id := 23) (zs_getf (T := TX12) (M := 70) (ci := 12) (j := 32) em219_94 rfl inX12 (by decide) wd_1300 ((congrFun xo_12 233).trans rfl)) ⟨_, rfl, rfl⟩ (fun z94 hz94 => ?_)
    refine hA_iald (kd := 86) (len := 2) (zs_iald em219_97) ⟨rfl, rfl, rfl⟩ (by omega) (by show _ < ((2 : Nat) : Int); omega) (fun z97 hz97 => ?_)
    rw [hz94] at hz97
    refine hA_const (k := 7) (zs_bipush (v := 7) em219_98 (by decide +kernel)) (by decide +kernel) (fun z98 hz98 => ?_)
    refine hA_callV (as := [.inl z97, .inl z98]) (rest := []) (B' := (0, 0)) (zs_invV (T := TX12) em219_100 zl_286 rfl wd_1539 wd_1541 wd_54 ((congrFun xo_12 261).trans rfl) xm_183) rfl ⟨_, rfl⟩ (Nat.le_of_ble_eq_true rfl) rfl ⟨Nat.zero_le _, Nat.zero_le _⟩ (hpre_of rfl (show hpr_286 d [.inr (.inl (some 75)), .inl z97, .inl z98] I from ⟨by show 3 ≤ d; omega, z97, z98, rfl, ⟨⟨h12a, h12b⟩, h13a⟩⟩)) (fun r100 I100 hp100 => ?_)
    replace hp100 : hpo_286 _ _ _ _ := hpost_of rfl hp100
    replace hp100 := hp100 z97 z98 rfl
    obtain ⟨rfl, hN100, hR100⟩ := hp100
    refine hA_aload (zs_aload_n em219_103) rfl ?_
    refine hA_getf0 (id := 13) (zs_getf (T := TX12) (M := 70) (ci := 12) (j := 27) em219_104 rfl inX12 (by decide) wd_1294 ((congrFun xo_12 200).trans rfl)) ⟨_, rfl, rfl⟩ (fun z104 hz104 => ?_)
    refine hA_if (zs_ifne em219_107 (t := 228) (by decide)) (fun (c107 : ¬ z104.toInt = 0) => ?_) (fun (c107 : ¬ ¬ z104.toInt = 0) => ?_)
    · refine hA_return ⟨rfl, em219_228⟩ ⟨Nat.le_refl _, Nat.le_refl _⟩ ?_
      intro he
      cases he
      exact ⟨rfl, one_n hS hN100 (by omega)⟩
    · refine hA_aload (zs_aload_n em219_110) rfl ?_
      refine hA_callV (as := []) (rest := []) (B' := (0, 0)) (zs_invV (T := TX12) em219_111 zl_257 rfl wd_1581 wd_1583 wd_63 ((congrFun xo_12 268).trans rfl) xm_225) rfl ⟨_, rfl⟩ (Nat.le_of_ble_eq_true rfl) rfl ⟨Nat.zero_le _, Nat.zero_le _⟩ (hpre_of rfl (show hpr_257 d [.inr (.inl (some 75))] I100 from ⟨by show 8 ≤ d; omega, rfl, ⟨pS_n hS hN100, by omega, pG_mo (pG_n hS (by omega) hG hN100 (by omega)) (by omega), by have h1 := hR100 (by omega); rw [zf_nF hN100 (by decide) (by decide), zv_nF hN100]; omega⟩⟩)) (fun r111 I111 hp111 => ?_)
      replace hp111 : hpo_257 _ _ _ _ := hpost_of rfl hp111
      replace hp111 := hp111 rfl
      obtain ⟨rfl, hTP⟩ := hp111
      replace hTP := one_t hN100 hTP
      refine hA_goto (zs_goto em219_114 (t := 228) (by decide)) ?_
      refine hA_return ⟨rfl, em219_228⟩ ⟨Nat.le_refl _, Nat.le_refl _⟩ ?_
      intro he
      cases he
      exact ⟨rfl, hTP⟩
  refine And.intro (fun (c9_2 : z8.toInt = 22) => ?_) (fun (c9_2 : ¬ z8.toInt = 22) => ?_)
  · show zAt _ _ _ _ _ _ _ _ _ 175 _ _ _ _
    exact h175
  refine And.intro (fun (c9_3 : z8.toInt = 23) => ?_) (fun (c9_3 : ¬ z8.toInt = 23) => ?_)
  · show zAt _ _ _ _ _ _ _ _ _ 175 _ _ _ _
    exact h175
  refine And.intro (fun (c9_4 : z8.toInt = 24) => ?_) (fun (c9_4 : ¬ z8.toInt = 24) => ?_)
  · show zAt _ _ _ _ _ _ _ _ _ 175 _ _ _ _
    exact h175
  refine And.intro (fun (c9_5 : z8.toInt = 25) => ?_) (fun (c9_5 : ¬ z8.toInt = 25) => ?_)
  · show zAt _ _ _ _ _ _ _ _ _ 175 _ _ _ _
    exact h175
  refine And.intro (fun (c9_6 : z8.toInt = 26) => ?_) (fun (c9_6 : ¬ z8.toInt = 26) => ?_)
  · show zAt _ _ _ _ _ _ _ _ _ 117 _ _ _ _
    refine hA_aload (zs_aload_n em219_117) rfl ?_
    refine hA_getf2 (r := 91) (zs_getf (T := TX12) (M := 70) (ci := 12) (j := 40) em219_118 rfl inX12 (by decide) wd_1310 ((congrFun xo_12 64).trans rfl)) ⟨_, rfl, rfl⟩ ?_
    refine hA_aload (zs_aload_n em219_121) rfl ?_
    refine hA_getf0 (id := 23) (zs_getf (T := TX12) (M := 70) (ci := 12) (j := 32) em219_122 rfl inX12 (by decide) wd_1300 ((congrFun xo_12 233).trans rfl)) ⟨_, rfl, rfl⟩ (fun z122 hz122 => ?_)
    refine hA_aload (zs_aload_n em219_125) rfl ?_
    refine hA_const (k := 1) (zs_iconst (v := 1) em219_126 (by decide +kernel)) (by decide +kernel) (fun z126 hz126 => ?_)
    refine hA_const (k := 99) (zs_bipush (v := 99) em219_127 (by decide +kernel)) (by decide +kernel) (fun z127 hz127 => ?_)
    refine hA_callV (as := [.inl z126, .inl z127]) (rest := [.inl z122, .inr (.inl (some 91))]) (B' := (0, 0)) (zs_invV (T := TX12) em219_129 zl_219 rfl wd_1589 wd_1591 wd_65 ((congrFun xo_12 271).trans rfl) xm_192) rfl ⟨_, rfl⟩ (Nat.le_of_ble_eq_true rfl) rfl ⟨Nat.zero_le _, Nat.zero_le _⟩ (zpre_of zh_219 ⟨(by show 5 ≤ d; omega), ⟨_, _, rfl, rfl, ⟨_, _, rfl, ⟨_, rfl, an_lo _, an_hi _⟩, ⟨_, _, rfl, ⟨_, rfl, an_lo _, an_hi _⟩, rfl⟩⟩⟩, (hF_cons (lo := 0) (hi := 400) ⟨by omega, by omega⟩ (hF_cons (lo := 0) (hi := 2147483647) ⟨by omega, by exact an_hi _⟩ hF_nil)), fun _ => hS.1⟩) (fun r129 I129 hp129 => ?_)
    replace hp129 := zpost_of zh_219 hp129
    rcases zq_219 hp129 with ⟨z129, v129_12, v129_13, rfl, hz129l, hz129h, rfl, hv129_12e, hv129_12l, hv129_12h, hv129_13e, hv129_13l, hv129_13h, hInv129⟩ | ⟨z129', v129_12', v129_13', rfl, hz129'l, hz129'h, rfl, hv129_12'l, hv129_12'h, hv129_13'l, hv129_13'h, hInv129⟩
    · refine hA_iastH (kd := 91) (len := 2) (zs_iast zInj0 em219_132) ⟨rfl, rfl, rfl⟩ (by omega) (by show _ < ((2 : Nat) : Int); omega) (eno rfl) ?_
      refine hA_goto (zs_goto em219_133 (t := 228) (by decide)) ?_
      refine hA_return ⟨rfl, em219_228⟩ ⟨Nat.le_refl _, Nat.le_refl _⟩ ?_
      intro he
      cases he
      exact ⟨rfl, one_i hS hG ⟨by omega, by omega⟩ (by omega) (by omega)⟩
    · refine hA_iastH (kd := 91) (len := 2) (zs_iast zInj0 em219_132) ⟨rfl, rfl, rfl⟩ (by omega) (by show _ < ((2 : Nat) : Int); omega) (eno rfl) ?_
      refine hA_goto (zs_goto em219_133 (t := 228) (by decide)) ?_
      refine hA_return ⟨rfl, em219_228⟩ ⟨Nat.le_refl _, Nat.le_refl _⟩ ?_
      intro he
      cases he
      exact ⟨rfl, one_i hS hG ⟨by omega, by omega⟩ (by omega) (by omega)⟩
  refine And.intro (fun (c9_7 : z8.toInt = 27) => ?_) (fun (c9_7 : ¬ z8.toInt = 27) => ?_)
  · show zAt _ _ _ _ _ _ _ _ _ 136 _ _ _ _
    refine hA_aload (zs_aload_n em219_136) rfl ?_
    refine hA_getf2 (r := 92) (zs_getf (T := TX12) (M := 70) (ci := 12) (j := 9) em219_137 rfl inX12 (by decide) wd_1311 ((congrFun xo_12 67).trans rfl)) ⟨_, rfl, rfl⟩ ?_
    refine hA_aload (zs_aload_n em219_140) rfl ?_
    refine hA_getf0 (id := 23) (zs_getf (T := TX12) (M := 70) (ci := 12) (j := 32) em219_141 rfl inX12 (by decide) wd_1300 ((congrFun xo_12 233).trans rfl)) ⟨_, rfl, rfl⟩ (fun z141 hz141 => ?_)
    refine hA_aload (zs_aload_n em219_144) rfl ?_
    refine hA_const (k := 0) (zs_iconst (v := 0) em219_145 (by decide +kernel)) (by decide +kernel) (fun z145 hz145 => ?_)
    refine hA_const (k := 100) (zs_bipush (v := 100) em219_146 (by decide +kernel)) (by decide +kernel) (fun z146 hz146 => ?_)
    refine hA_callV (as := [.inl z145, .inl z146]) (rest := [.inl z141, .inr (.inl (some 92))]) (B' := (0, 0)) (zs_invV (T := TX12) em219_148 zl_219 rfl wd_1589 wd_1591 wd_65 ((congrFun xo_12 271).trans rfl) xm_192) rfl ⟨_, rfl⟩ (Nat.le_of_ble_eq_true rfl) rfl ⟨Nat.zero_le _, Nat.zero_le _⟩ (zpre_of zh_219 ⟨(by show 5 ≤ d; omega), ⟨_, _, rfl, rfl, ⟨_, _, rfl, ⟨_, rfl, an_lo _, an_hi _⟩, ⟨_, _, rfl, ⟨_, rfl, an_lo _, an_hi _⟩, rfl⟩⟩⟩, (hF_cons (lo := 0) (hi := 400) ⟨by omega, by omega⟩ (hF_cons (lo := 0) (hi := 2147483647) ⟨by omega, by exact an_hi _⟩ hF_nil)), fun _ => hS.1⟩) (fun r148 I148 hp148 => ?_)
    replace hp148 := zpost_of zh_219 hp148
    rcases zq_219 hp148 with ⟨z148, v148_12, v148_13, rfl, hz148l, hz148h, rfl, hv148_12e, hv148_12l, hv148_12h, hv148_13e, hv148_13l, hv148_13h, hInv148⟩ | ⟨z148', v148_12', v148_13', rfl, hz148'l, hz148'h, rfl, hv148_12'l, hv148_12'h, hv148_13'l, hv148_13'h, hInv148⟩
    · refine hA_iastH (kd := 92) (len := 2) (zs_iast zInj0 em219_151) ⟨rfl, rfl, rfl⟩ (by omega) (by show _ < ((2 : Nat) : Int); omega) (eno rfl) ?_
      refine hA_goto (zs_goto em219_152 (t := 228) (by decide)) ?_
      refine hA_return ⟨rfl, em219_228⟩ ⟨Nat.le_refl _, Nat.le_refl _⟩ ?_
      intro he
      cases he
      exact ⟨rfl, one_i hS hG ⟨by omega, by omega⟩ (by omega) (by omega)⟩
    · refine hA_iastH (kd := 92) (len := 2) (zs_iast zInj0 em219_151) ⟨rfl, rfl, rfl⟩ (by omega) (by show _ < ((2 : Nat) : Int); omega) (eno rfl) ?_
      refine hA_goto (zs_goto em219_152 (t := 228) (by decide)) ?_
      refine hA_return ⟨rfl, em219_228⟩ ⟨Nat.le_refl _, Nat.le_refl _⟩ ?_
      intro he
      cases he
      exact ⟨rfl, one_i hS hG ⟨by omega, by omega⟩ (by omega) (by omega)⟩
  refine And.intro (fun (c9_8 : z8.toInt = 28) => ?_) (fun (c9_8 : ¬ z8.toInt = 28) => ?_)
  · show zAt _ _ _ _ _ _ _ _ _ 155 _ _ _ _
    refine hA_aload (zs_aload_n em219_155) rfl ?_
    refine hA_getf2 (r := 93) (zs_getf (T := TX12) (M := 70) (ci := 12) (j := 5) em219_156 rfl inX12 (by decide) wd_1312 ((congrFun xo_12 70).trans rfl)) ⟨_, rfl, rfl⟩ ?_
    refine hA_aload (zs_aload_n em219_159) rfl ?_
    refine hA_getf0 (id := 23) (zs_getf (T := TX12) (M := 70) (ci := 12) (j := 32) em219_160 rfl inX12 (by decide) wd_1300 ((congrFun xo_12 233).trans rfl)) ⟨_, rfl, rfl⟩ (fun z160 hz160 => ?_)
    refine hA_aload (zs_aload_n em219_163) rfl ?_
    refine hA_const (k := 0) (zs_iconst (v := 0) em219_164 (by decide +kernel)) (by decide +kernel) (fun z164 hz164 => ?_)
    refine hA_const (k := 9999) (zs_sipush (v := 9999) em219_165 (by decide +kernel)) (by decide +kernel) (fun z165 hz165 => ?_)
    refine hA_callV (as := [.inl z164, .inl z165]) (rest := [.inl z160, .inr (.inl (some 93))]) (B' := (0, 0)) (zs_invV (T := TX12) em219_168 zl_219 rfl wd_1589 wd_1591 wd_65 ((congrFun xo_12 271).trans rfl) xm_192) rfl ⟨_, rfl⟩ (Nat.le_of_ble_eq_true rfl) rfl ⟨Nat.zero_le _, Nat.zero_le _⟩ (zpre_of zh_219 ⟨(by show 5 ≤ d; omega), ⟨_, _, rfl, rfl, ⟨_, _, rfl, ⟨_, rfl, an_lo _, an_hi _⟩, ⟨_, _, rfl, ⟨_, rfl, an_lo _, an_hi _⟩, rfl⟩⟩⟩, (hF_cons (lo := 0) (hi := 400) ⟨by omega, by omega⟩ (hF_cons (lo := 0) (hi := 2147483647) ⟨by omega, by exact an_hi _⟩ hF_nil)), fun _ => hS.1⟩) (fun r168 I168 hp168 => ?_)
    replace hp168 := zpost_of zh_219 hp168
    rcases zq_219 hp168 with ⟨z168, v168_12, v168_13, rfl, hz168l, hz168h, rfl, hv168_12e, hv168_12l, hv168_12h, hv168_13e, hv168_13l, hv168_13h, hInv168⟩ | ⟨z168', v168_12', v168_13', rfl, hz168'l, hz168'h, rfl, hv168_12'l, hv168_12'h, hv168_13'l, hv168_13'h, hInv168⟩
    · refine hA_iastH (kd := 93) (len := 2) (zs_iast zInj0 em219_171) ⟨rfl, rfl, rfl⟩ (by omega) (by show _ < ((2 : Nat) : Int); omega) (eno rfl) ?_
      refine hA_goto (zs_goto em219_172 (t := 228) (by decide)) ?_
      refine hA_return ⟨rfl, em219_228⟩ ⟨Nat.le_refl _, Nat.le_refl _⟩ ?_
      intro he
      cases he
      exact ⟨rfl, one_i hS hG ⟨by omega, by omega⟩ (by omega) (by omega)⟩
    · refine hA_iastH (kd := 93) (len := 2) (zs_iast zInj0 em219_171) ⟨rfl, rfl, rfl⟩ (by omega) (by show _ < ((2 : Nat) : Int); omega) (eno rfl) ?_
      refine hA_goto (zs_goto em219_172 (t := 228) (by decide)) ?_
      refine hA_return ⟨rfl, em219_228⟩ ⟨Nat.le_refl _, Nat.le_refl _⟩ ?_
      intro he
      cases he
      exact ⟨rfl, one_i hS hG ⟨by omega, by omega⟩ (by omega) (by omega)⟩
  show zAt _ _ _ _ _ _ _ _ _ 175 _ _ _ _
  exact h175
