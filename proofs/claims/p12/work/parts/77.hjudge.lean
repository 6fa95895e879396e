theorem em243_0 : decode prog_3_method_9_code 0 = .ok (.iload_n 0, 1) := by decide +kernel
theorem em243_1 : decode prog_3_method_9_code 1 = .ok (.tableswitch 39 2 4 #[27, 31, 35], 27) := by decide +kernel
theorem em243_28 : decode prog_3_method_9_code 28 = .ok (.iload_n 1, 1) := by decide +kernel
theorem em243_29 : decode prog_3_method_9_code 29 = .ok (.iload_n 2, 1) := by decide +kernel
theorem em243_30 : decode prog_3_method_9_code 30 = .ok (.iadd, 1) := by decide +kernel
theorem em243_31 : decode prog_3_method_9_code 31 = .ok (.ireturn, 1) := by decide +kernel
theorem em243_32 : decode prog_3_method_9_code 32 = .ok (.iload_n 1, 1) := by decide +kernel
theorem em243_33 : decode prog_3_method_9_code 33 = .ok (.iload_n 2, 1) := by decide +kernel
theorem em243_34 : decode prog_3_method_9_code 34 = .ok (.isub, 1) := by decide +kernel
theorem em243_35 : decode prog_3_method_9_code 35 = .ok (.ireturn, 1) := by decide +kernel
theorem em243_36 : decode prog_3_method_9_code 36 = .ok (.iload_n 1, 1) := by decide +kernel
theorem em243_37 : decode prog_3_method_9_code 37 = .ok (.iload_n 2, 1) := by decide +kernel
theorem em243_38 : decode prog_3_method_9_code 38 = .ok (.imul, 1) := by decide +kernel
theorem em243_39 : decode prog_3_method_9_code 39 = .ok (.ireturn, 1) := by decide +kernel
theorem em243_40 : decode prog_3_method_9_code 40 = .ok (.iload_n 2, 1) := by decide +kernel
theorem em243_41 : decode prog_3_method_9_code 41 = .ok (.ifCond .ne 7, 3) := by decide +kernel
theorem em243_44 : decode prog_3_method_9_code 44 = .ok (.iconst 0, 1) := by decide +kernel
theorem em243_45 : decode prog_3_method_9_code 45 = .ok (.goto 6, 3) := by decide +kernel
theorem em243_48 : decode prog_3_method_9_code 48 = .ok (.iload_n 1, 1) := by decide +kernel
theorem em243_49 : decode prog_3_method_9_code 49 = .ok (.iload_n 2, 1) := by decide +kernel
theorem em243_50 : decode prog_3_method_9_code 50 = .ok (.idiv, 1) := by decide +kernel
theorem em243_51 : decode prog_3_method_9_code 51 = .ok (.ireturn, 1) := by decide +kernel
set_option maxRecDepth 10000 in
set_option maxHeartbeats 4000000 in
theorem hM_280 : zOKx 280 := by
  intro d hc as I q h hq
  have h : hpr_280 (d + 1) as I := h
  obtain ⟨hd, a, b, c, rfl, hpre⟩ := h
  cases (show some _ = some q from hq)
  refine hmet (L := [some (.inl a), some (.inl b), some (.inl c)]) (by decide) (Nat.le_of_ble_eq_true rfl) hc rfl ?_
  refine hA_iload (zs_iload_n em243_0) rfl ?_
  refine hA_tsw (zs_tsw (ts := [28, 32, 36]) (df := 40) em243_1 (by decide +kernel) (by decide +kernel) (ztsw (by decide +kernel) (by decide +kernel))) ?_
  refine And.intro (fun (c1_0 : a.toInt = 2) => ?_) (fun (c1_0 : ¬ a.toInt = 2) => ?_)
  · show zAt _ _ _ _ _ _ _ _ _ 28 _ _ _ _
    refine hA_iload (zs_iload_n em243_28) rfl ?_
    refine hA_iload (zs_iload_n em243_29) rfl ?_
    refine hA_bin (zs_iadd em243_30) (fun z30 => ?_)
    refine hA_ireturn ⟨rfl, em243_31⟩ ⟨Nat.le_refl _, Nat.le_refl _⟩ ?_
    intro a' b' c' he
    cases he
    exact ⟨_, rfl, rfl⟩
  refine And.intro (fun (c1_1 : a.toInt = 3) => ?_) (fun (c1_1 : ¬ a.toInt = 3) => ?_)
  · show zAt _ _ _ _ _ _ _ _ _ 32 _ _ _ _
    refine hA_iload (zs_iload_n em243_32) rfl ?_
    refine hA_iload (zs_iload_n em243_33) rfl ?_
    refine hA_bin (zs_isub em243_34) (fun z34 => ?_)
    refine hA_ireturn ⟨rfl, em243_35⟩ ⟨Nat.le_refl _, Nat.le_refl _⟩ ?_
    intro a' b' c' he
    cases he
    exact ⟨_, rfl, rfl⟩
  refine And.intro (fun (c1_2 : a.toInt = 4) => ?_) (fun (c1_2 : ¬ a.toInt = 4) => ?_)
  · show zAt _ _ _ _ _ _ _ _ _ 36 _ _ _ _
    refine hA_iload (zs_iload_n em243_36) rfl ?_
    refine hA_iload (zs_iload_n em243_37) rfl ?_
    refine hA_bin (zs_imul em243_38) (fun z38 => ?_)
    refine hA_ireturn ⟨rfl, em243_39⟩ ⟨Nat.le_refl _, Nat.le_refl _⟩ ?_
    intro a' b' c' he
    cases he
    exact ⟨_, rfl, rfl⟩
  show zAt _ _ _ _ _ _ _ _ _ 40 _ _ _ _
  refine hA_iload (zs_iload_n em243_40) rfl ?_
  refine hA_if (zs_ifne em243_41 (t := 48) (by decide)) (fun (c41 : ¬ c.toInt = 0) => ?_) (fun (c41 : ¬ ¬ c.toInt = 0) => ?_)
  · refine hA_iload (zs_iload_n em243_48) rfl ?_
    refine hA_iload (zs_iload_n em243_49) rfl ?_
    refine hA_div (zs_idiv em243_50) (by omega) (fun z50 => ?_)
    refine hA_ireturn ⟨rfl, em243_51⟩ ⟨Nat.le_refl _, Nat.le_refl _⟩ ?_
    intro a' b' c' he
    cases he
    exact ⟨_, rfl, rfl⟩
  · refine hA_const (k := 0) (zs_iconst (v := 0) em243_44 (by decide +kernel)) (by decide +kernel) (fun z44 hz44 => ?_)
    refine hA_goto (zs_goto em243_45 (t := 51) (by decide)) ?_
    refine hA_ireturn ⟨rfl, em243_51⟩ ⟨Nat.le_refl _, Nat.le_refl _⟩ ?_
    intro a' b' c' he
    cases he
    exact ⟨_, rfl, rfl⟩
theorem em3_0 : decode prog_3_method_8_code 0 = .ok (.aload_n 0, 1) := by decide +kernel
theorem em3_1 : decode prog_3_method_8_code 1 = .ok (.getfield 18, 3) := by decide +kernel
theorem em3_4 : decode prog_3_method_8_code 4 = .ok (.getfield 75, 3) := by decide +kernel
theorem em3_7 : decode prog_3_method_8_code 7 = .ok (.iload_n 1, 1) := by decide +kernel
theorem em3_8 : decode prog_3_method_8_code 8 = .ok (.iaload, 1) := by decide +kernel
theorem em3_9 : decode prog_3_method_8_code 9 = .ok (.istore_n 2, 1) := by decide +kernel
theorem em3_10 : decode prog_3_method_8_code 10 = .ok (.iconst 0, 1) := by decide +kernel
theorem em3_11 : decode prog_3_method_8_code 11 = .ok (.istore_n 3, 1) := by decide +kernel
theorem em3_12 : decode prog_3_method_8_code 12 = .ok (.iload_n 2, 1) := by decide +kernel
theorem em3_13 : decode prog_3_method_8_code 13 = .ok (.aload_n 0, 1) := by decide +kernel
theorem em3_14 : decode prog_3_method_8_code 14 = .ok (.getfield 18, 3) := by decide +kernel
theorem em3_17 : decode prog_3_method_8_code 17 = .ok (.getfield 78, 3) := by decide +kernel
theorem em3_20 : decode prog_3_method_8_code 20 = .ok (.if_icmp .ge 198, 3) := by decide +kernel
theorem em3_23 : decode prog_3_method_8_code 23 = .ok (.aload_n 0, 1) := by decide +kernel
theorem em3_24 : decode prog_3_method_8_code 24 = .ok (.getfield 18, 3) := by decide +kernel
theorem em3_27 : decode prog_3_method_8_code 27 = .ok (.getfield 81, 3) := by decide +kernel
theorem em3_30 : decode prog_3_method_8_code 30 = .ok (.iload_n 2, 1) := by decide +kernel
theorem em3_31 : decode prog_3_method_8_code 31 = .ok (.iaload, 1) := by decide +kernel
theorem em3_32 : decode prog_3_method_8_code 32 = .ok (.istore 4, 2) := by decide +kernel
theorem em3_34 : decode prog_3_method_8_code 34 = .ok (.aload_n 0, 1) := by decide +kernel
theorem em3_35 : decode prog_3_method_8_code 35 = .ok (.getfield 18, 3) := by decide +kernel
theorem em3_38 : decode prog_3_method_8_code 38 = .ok (.getfield 84, 3) := by decide +kernel
theorem em3_41 : decode prog_3_method_8_code 41 = .ok (.iload_n 2, 1) := by decide +kernel
theorem em3_42 : decode prog_3_method_8_code 42 = .ok (.iaload, 1) := by decide +kernel
theorem em3_43 : decode prog_3_method_8_code 43 = .ok (.istore 5, 2) := by decide +kernel
theorem em3_45 : decode prog_3_method_8_code 45 = .ok (.iinc 2 1, 3) := by decide +kernel
theorem em3_48 : decode prog_3_method_8_code 48 = .ok (.iload 4, 2) := by decide +kernel
theorem em3_50 : decode prog_3_method_8_code 50 = .ok (.ifCond .eq 9, 3) := by decide +kernel
theorem em3_53 : decode prog_3_method_8_code 53 = .ok (.iload 4, 2) := by decide +kernel
theorem em3_55 : decode prog_3_method_8_code 55 = .ok (.iconst 1, 1) := by decide +kernel
theorem em3_56 : decode prog_3_method_8_code 56 = .ok (.if_icmp .ne 40, 3) := by decide +kernel
theorem em3_59 : decode prog_3_method_8_code 59 = .ok (.iload_n 3, 1) := by decide +kernel
theorem em3_60 : decode prog_3_method_8_code 60 = .ok (.bipush 16, 2) := by decide +kernel
theorem em3_62 : decode prog_3_method_8_code 62 = .ok (.if_icmp .lt 5, 3) := by decide +kernel
theorem em3_65 : decode prog_3_method_8_code 65 = .ok (.iconst 0, 1) := by decide +kernel
theorem em3_66 : decode prog_3_method_8_code 66 = .ok (.ireturn, 1) := by decide +kernel
theorem em3_67 : decode prog_3_method_8_code 67 = .ok (.aload_n 0, 1) := by decide +kernel
theorem em3_68 : decode prog_3_method_8_code 68 = .ok (.getfield 15, 3) := by decide +kernel
theorem em3_71 : decode prog_3_method_8_code 71 = .ok (.iload_n 3, 1) := by decide +kernel
theorem em3_72 : decode prog_3_method_8_code 72 = .ok (.iload 4, 2) := by decide +kernel
theorem em3_74 : decode prog_3_method_8_code 74 = .ok (.ifCond .ne 8, 3) := by decide +kernel
theorem em3_77 : decode prog_3_method_8_code 77 = .ok (.iload 5, 2) := by decide +kernel
theorem em3_79 : decode prog_3_method_8_code 79 = .ok (.goto 10, 3) := by decide +kernel
theorem em3_82 : decode prog_3_method_8_code 82 = .ok (.aload_n 0, 1) := by decide +kernel
theorem em3_83 : decode prog_3_method_8_code 83 = .ok (.getfield 11, 3) := by decide +kernel
theorem em3_86 : decode prog_3_method_8_code 86 = .ok (.iload 5, 2) := by decide +kernel
theorem em3_88 : decode prog_3_method_8_code 88 = .ok (.iaload, 1) := by decide +kernel
theorem em3_89 : decode prog_3_method_8_code 89 = .ok (.iastore, 1) := by decide +kernel
theorem em3_90 : decode prog_3_method_8_code 90 = .ok (.iinc 3 1, 3) := by decide +kernel
theorem em3_93 : decode prog_3_method_8_code 93 = .ok (.goto 122, 3) := by decide +kernel
theorem em3_96 : decode prog_3_method_8_code 96 = .ok (.iload 4, 2) := by decide +kernel
theorem em3_98 : decode prog_3_method_8_code 98 = .ok (.bipush 7, 2) := by decide +kernel
theorem em3_100 : decode prog_3_method_8_code 100 = .ok (.if_icmp .ne 20, 3) := by decide +kernel
theorem em3_103 : decode prog_3_method_8_code 103 = .ok (.iload_n 3, 1) := by decide +kernel
theorem em3_104 : decode prog_3_method_8_code 104 = .ok (.ifCond .le 14, 3) := by decide +kernel
theorem em3_107 : decode prog_3_method_8_code 107 = .ok (.aload_n 0, 1) := by decide +kernel
theorem em3_108 : decode prog_3_method_8_code 108 = .ok (.getfield 15, 3) := by decide +kernel
theorem em3_111 : decode prog_3_method_8_code 111 = .ok (.iload_n 3, 1) := by decide +kernel
theorem em3_112 : decode prog_3_method_8_code 112 = .ok (.iconst 1, 1) := by decide +kernel
theorem em3_113 : decode prog_3_method_8_code 113 = .ok (.isub, 1) := by decide +kernel
theorem em3_114 : decode prog_3_method_8_code 114 = .ok (.iaload, 1) := by decide +kernel
theorem em3_115 : decode prog_3_method_8_code 115 = .ok (.goto 4, 3) := by decide +kernel
theorem em3_118 : decode prog_3_method_8_code 118 = .ok (.iconst 0, 1) := by decide +kernel
theorem em3_119 : decode prog_3_method_8_code 119 = .ok (.ireturn, 1) := by decide +kernel
theorem em3_120 : decode prog_3_method_8_code 120 = .ok (.iload_n 3, 1) := by decide +kernel
theorem em3_121 : decode prog_3_method_8_code 121 = .ok (.iconst 2, 1) := by decide +kernel
theorem em3_122 : decode prog_3_method_8_code 122 = .ok (.if_icmp .lt 20, 3) := by decide +kernel
theorem em3_125 : decode prog_3_method_8_code 125 = .ok (.iload 4, 2) := by decide +kernel
theorem em3_127 : decode prog_3_method_8_code 127 = .ok (.iconst 5, 1) := by decide +kernel
theorem em3_128 : decode prog_3_method_8_code 128 = .ok (.if_icmp .ne 16, 3) := by decide +kernel
theorem em3_131 : decode prog_3_method_8_code 131 = .ok (.aload_n 0, 1) := by decide +kernel
theorem em3_132 : decode prog_3_method_8_code 132 = .ok (.getfield 15, 3) := by decide +kernel
theorem em3_135 : decode prog_3_method_8_code 135 = .ok (.iload_n 3, 1) := by decide +kernel
theorem em3_136 : decode prog_3_method_8_code 136 = .ok (.iconst 1, 1) := by decide +kernel
theorem em3_137 : decode prog_3_method_8_code 137 = .ok (.isub, 1) := by decide +kernel
theorem em3_138 : decode prog_3_method_8_code 138 = .ok (.iaload, 1) := by decide +kernel
theorem em3_139 : decode prog_3_method_8_code 139 = .ok (.ifCond .ne 5, 3) := by decide +kernel
theorem em3_142 : decode prog_3_method_8_code 142 = .ok (.iconst 0, 1) := by decide +kernel
theorem em3_143 : decode prog_3_method_8_code 143 = .ok (.ireturn, 1) := by decide +kernel
theorem em3_144 : decode prog_3_method_8_code 144 = .ok (.iload 4, 2) := by decide +kernel
theorem em3_146 : decode prog_3_method_8_code 146 = .ok (.bipush 6, 2) := by decide +kernel
theorem em3_148 : decode prog_3_method_8_code 148 = .ok (.if_icmp .ne 37, 3) := by decide +kernel
theorem em3_151 : decode prog_3_method_8_code 151 = .ok (.iinc 3 (-2), 3) := by decide +kernel
theorem em3_154 : decode prog_3_method_8_code 154 = .ok (.aload_n 0, 1) := by decide +kernel
theorem em3_155 : decode prog_3_method_8_code 155 = .ok (.getfield 15, 3) := by decide +kernel
theorem em3_158 : decode prog_3_method_8_code 158 = .ok (.iload_n 3, 1) := by decide +kernel
theorem em3_159 : decode prog_3_method_8_code 159 = .ok (.iaload, 1) := by decide +kernel
theorem em3_160 : decode prog_3_method_8_code 160 = .ok (.aload_n 0, 1) := by decide +kernel
theorem em3_161 : decode prog_3_method_8_code 161 = .ok (.getfield 15, 3) := by decide +kernel
theorem em3_164 : decode prog_3_method_8_code 164 = .ok (.iload_n 3, 1) := by decide +kernel
theorem em3_165 : decode prog_3_method_8_code 165 = .ok (.iconst 1, 1) := by decide +kernel
theorem em3_166 : decode prog_3_method_8_code 166 = .ok (.iadd, 1) := by decide +kernel
theorem em3_167 : decode prog_3_method_8_code 167 = .ok (.iaload, 1) := by decide +kernel
theorem em3_168 : decode prog_3_method_8_code 168 = .ok (.if_icmp .ge 7, 3) := by decide +kernel
theorem em3_171 : decode prog_3_method_8_code 171 = .ok (.iload_n 2, 1) := by decide +kernel
theorem em3_172 : decode prog_3_method_8_code 172 = .ok (.goto 9, 3) := by decide +kernel
theorem em3_175 : decode prog_3_method_8_code 175 = .ok (.iload_n 2, 1) := by decide +kernel
theorem em3_176 : decode prog_3_method_8_code 176 = .ok (.iload 5, 2) := by decide +kernel
theorem em3_178 : decode prog_3_method_8_code 178 = .ok (.invokestatic 48, 3) := by decide +kernel
theorem em3_181 : decode prog_3_method_8_code 181 = .ok (.istore_n 2, 1) := by decide +kernel
theorem em3_182 : decode prog_3_method_8_code 182 = .ok (.goto 33, 3) := by decide +kernel
theorem em3_185 : decode prog_3_method_8_code 185 = .ok (.iinc 3 (-1), 3) := by decide +kernel
theorem em3_188 : decode prog_3_method_8_code 188 = .ok (.aload_n 0, 1) := by decide +kernel
theorem em3_189 : decode prog_3_method_8_code 189 = .ok (.getfield 15, 3) := by decide +kernel
theorem em3_192 : decode prog_3_method_8_code 192 = .ok (.iload_n 3, 1) := by decide +kernel
theorem em3_193 : decode prog_3_method_8_code 193 = .ok (.iconst 1, 1) := by decide +kernel
theorem em3_194 : decode prog_3_method_8_code 194 = .ok (.isub, 1) := by decide +kernel
theorem em3_195 : decode prog_3_method_8_code 195 = .ok (.iload 4, 2) := by decide +kernel
theorem em3_197 : decode prog_3_method_8_code 197 = .ok (.aload_n 0, 1) := by decide +kernel
theorem em3_198 : decode prog_3_method_8_code 198 = .ok (.getfield 15, 3) := by decide +kernel
theorem em3_201 : decode prog_3_method_8_code 201 = .ok (.iload_n 3, 1) := by decide +kernel
theorem em3_202 : decode prog_3_method_8_code 202 = .ok (.iconst 1, 1) := by decide +kernel
theorem em3_203 : decode prog_3_method_8_code 203 = .ok (.isub, 1) := by decide +kernel
theorem em3_204 : decode prog_3_method_8_code 204 = .ok (.iaload, 1) := by decide +kernel
theorem em3_205 : decode prog_3_method_8_code 205 = .ok (.aload_n 0, 1) := by decide +kernel
theorem em3_206 : decode prog_3_method_8_code 206 = .ok (.getfield 15, 3) := by decide +kernel
theorem em3_209 : decode prog_3_method_8_code 209 = .ok (.iload_n 3, 1) := by decide +kernel
theorem em3_210 : decode prog_3_method_8_code 210 = .ok (.iaload, 1) := by decide +kernel
theorem em3_211 : decode prog_3_method_8_code 211 = .ok (.invokestatic 87, 3) := by decide +kernel
theorem em3_214 : decode prog_3_method_8_code 214 = .ok (.iastore, 1) := by decide +kernel
theorem em3_215 : decode prog_3_method_8_code 215 = .ok (.goto (-203), 3) := by decide +kernel
theorem em3_218 : decode prog_3_method_8_code 218 = .ok (.iconst 0, 1) := by decide +kernel
theorem em3_219 : decode prog_3_method_8_code 219 = .ok (.ireturn, 1) := by decide +kernel
set_option maxRecDepth 10000 in
set_option maxHeartbeats 4000000 in
theorem hM_3 : zOKh 3 zc_3 := by
  intro d hc as I q h hq
  obtain ⟨hd, ⟨_, _, rfl, rfl, ⟨_, _, rfl, ⟨x1, rfl, hx1, hx1b⟩, rfl⟩⟩, hF, hI⟩ := h
  have hd : 6 ≤ d + 1 := hd
  have hx1 : (0 : Int) ≤ x1.toInt := hx1
  have hx1b : x1.toInt ≤ (3 : Int) := hx1b
  have hInv : zInv I := hI rfl
  cases (show some _ = some q from hq)
  have loop : ∀ (n : Nat) (at0 : Int32) (top : Int32) (ha : 0 ≤ at0.toInt) (ht : 0 ≤ top.toInt) (ht2 : top.toInt ≤ 16), (408 - at0.toInt).toNat = n → zAt zG0 PZ zbd zpre zpost (d, (zbd 3).1, (zbd 3).2) prog_3_method_8_code "CapitalCase$Judge" (zRet prog_3_method_8_code (some .int) (zbd 3) (fun r I' => aPost zInv zc_3 [.inr (.inl (some 48)), .inl x1] I r I')) 12 [some (.inr (.inl (some 48))), some (.inl x1), some (.inl at0), some (.inl top), none, none] [] I (0, 0) := by
    intro n
    induction n using Nat.strongRecOn with
    | ind n ih =>
      intro at0 top ha ht ht2 hn
      refine hA_iload (zs_iload_n em3_12) rfl ?_
      refine hA_aload (zs_aload_n em3_13) rfl ?_
      refine hA_getf2 (r := 2) (zs_getf (T := TX1) (M := 3) (ci := 1) (j := 0) em3_14 rfl inX1 (by decide) wd_422 ((congrFun xo_2 18).trans rfl)) ⟨_, rfl, rfl⟩ ?_
      refine hA_getf1 (q := (0, 408)) (zs_getf (T := TX6) (M := 15) (ci := 6) (j := 14) em3_17 rfl inX6 (by decide) wd_219 ((congrFun xo_2 78).trans rfl)) ⟨_, rfl, rfl⟩ rfl (fun z17 (hz17 : (0 : Int) ≤ z17.toInt) (hz17b : z17.toInt ≤ 408) => ?_)
      refine hA_icmp (zs_icmpge em3_20 (t := 218) (by decide)) (fun (c20 : z17.toInt ≤ at0.toInt) => ?_) (fun (c20 : ¬ z17.toInt ≤ at0.toInt) => ?_)
      · refine hA_const (k := 0) (zs_iconst (v := 0) em3_218 (by decide +kernel)) (by decide +kernel) (fun z218 hz218 => ?_)
        refine hA_ireturn ⟨rfl, em3_219⟩ ⟨Nat.le_refl _, Nat.le_refl _⟩ ?_
        exact ⟨⟨_, List.mem_cons_self, ⟨_, rfl, an_lo _, an_hi _⟩, hCh_nil, (fun id hl hn => rfl), (fun _ h => absurd h List.not_mem_nil)⟩, (fun _ => hInv), (fun _ id hid => rfl)⟩
      · refine hA_aload (zs_aload_n em3_23) rfl ?_
        refine hA_getf2 (r := 2) (zs_getf (T := TX1) (M := 3) (ci := 1) (j := 0) em3_24 rfl inX1 (by decide) wd_422 ((congrFun xo_2 18).trans rfl)) ⟨_, rfl, rfl⟩ ?_
        refine hA_getf2 (r := 10) (zs_getf (T := TX6) (M := 15) (ci := 6) (j := 12) em3_27 rfl inX6 (by decide) wd_215 ((congrFun xo_2 81).trans rfl)) ⟨_, rfl, rfl⟩ ?_
        refine hA_iload (zs_iload_n em3_30) rfl ?_
        refine hA_iald (kd := 10) (len := 408) (zs_iald em3_31) ⟨rfl, rfl, rfl⟩ (by omega) (by show _ < ((408 : Nat) : Int); omega) (fun z31 hz31 => ?_)
        refine hA_istore (L' := [some (.inr (.inl (some 48))), some (.inl x1), some (.inl at0), some (.inl top), some (.inl z31), none]) (zs_istore em3_32) ⟨Nat.le_of_ble_eq_true rfl, rfl⟩ rfl ?_
        refine hA_aload (zs_aload_n em3_34) rfl ?_
        refine hA_getf2 (r := 2) (zs_getf (T := TX1) (M := 3) (ci := 1) (j := 0) em3_35 rfl inX1 (by decide) wd_422 ((congrFun xo_2 18).trans rfl)) ⟨_, rfl, rfl⟩ ?_
        refine hA_getf2 (r := 11) (zs_getf (T := TX6) (M := 15) (ci := 6) (j := 13) em3_38 rfl inX6 (by decide) wd_217 ((congrFun xo_2 84).trans rfl)) ⟨_, rfl, rfl⟩ ?_
        refine hA_iload (zs_iload_n em3_41) rfl ?_
        refine hA_iald (kd := 11) (len := 408) (zs_iald em3_42) ⟨rfl, rfl, rfl⟩ (by omega) (by show _ < ((408 : Nat) : Int); omega) (fun z42 hz42 => ?_)
        refine hA_istore (L' := [some (.inr (.inl (some 48))), some (.inl x1), some (.inl at0), some (.inl top), some (.inl z31), some (.inl z42)]) (zs_istore em3_43) ⟨Nat.le_of_ble_eq_true rfl, rfl⟩ rfl ?_
        refine hA_iinc (c := 1) (zs_iinc (k := 1) em3_45 (by decide +kernel)) (by decide +kernel) rfl ⟨Nat.le_of_ble_eq_true rfl, rfl⟩ (by omega) (by omega) (fun z45 hz45 => ?_)
        show zAt _ _ _ _ _ _ _ _ _ _ [some (.inr (.inl (some 48))), some (.inl x1), some (.inl z45), some (.inl top), some (.inl z31), some (.inl z42)] _ _ _
        refine hA_iload (zs_iload em3_48) rfl ?_
        refine hA_if (zs_ifeq em3_50 (t := 59) (by decide)) (fun (c50 : z31.toInt = 0) => ?_) (fun (c50 : ¬ z31.toInt = 0) => ?_)
        · refine hA_iload (zs_iload_n em3_59) rfl ?_
          refine hA_const (k := 16) (zs_bipush (v := 16) em3_60 (by decide +kernel)) (by decide +kernel) (fun z60 hz60 => ?_)
          refine hA_icmp (zs_icmplt em3_62 (t := 67) (by decide)) (fun (c62 : top.toInt < z60.toInt) => ?_) (fun (c62 : ¬ top.toInt < z60.toInt) => ?_)
          · refine hA_aload (zs_aload_n em3_67) rfl ?_
            refine hA_getf2 (r := 50) (zs_getf (T := TX1) (M := 3) (ci := 1) (j := 2) em3_68 rfl inX1 (by decide) wd_424 ((congrFun xo_2 15).trans rfl)) ⟨_, rfl, rfl⟩ ?_
            refine hA_iload (zs_iload_n em3_71) rfl ?_
            refine hA_iload (zs_iload em3_72) rfl ?_
            refine hA_if (zs_ifne em3_74 (t := 82) (by decide)) (fun (c74 : ¬ z31.toInt = 0) => ?_) (fun (c74 : ¬ ¬ z31.toInt = 0) => ?_)
            · refine hA_aload (zs_aload_n em3_82) rfl ?_
              refine hA_getf2 (r := 49) (zs_getf (T := TX1) (M := 3) (ci := 1) (j := 1) em3_83 rfl inX1 (by decide) wd_423 ((congrFun xo_2 11).trans rfl)) ⟨_, rfl, rfl⟩ ?_
              refine hA_iload (zs_iload em3_86) rfl ?_
              have hop := jstp hInv (i := at0.toInt) (by omega) (by omega) (by omega)
              refine hA_ialdH (kd := 49) (len := 9) (zs_iald em3_88) ⟨rfl, rfl, rfl⟩ (by omega) (by show _ < ((9 : Nat) : Int); omega) (fun z88 hz88 => ?_)
              refine hA_iastH (kd := 50) (len := 16) (zs_iast zInj0 em3_89) ⟨rfl, rfl, rfl⟩ (by omega) (by show _ < ((16 : Nat) : Int); omega) (eno rfl) ?_
              refine hA_iinc (c := 1) (zs_iinc (k := 1) em3_90 (by decide +kernel)) (by decide +kernel) rfl ⟨Nat.le_of_ble_eq_true rfl, rfl⟩ (by omega) (by omega) (fun z90 hz90 => ?_)
              show zAt _ _ _ _ _ _ _ _ _ _ [some (.inr (.inl (some 48))), some (.inl x1), some (.inl z45), some (.inl z90), some (.inl z31), some (.inl z42)] _ _ _
              refine hA_goto (zs_goto em3_93 (t := 215) (by decide)) ?_
              refine hA_goto (zs_goto em3_215 (t := 12) (by decide)) ?_
              refine hA_fg (L' := [some (.inr (.inl (some 48))), some (.inl x1), some (.inl z45), some (.inl z90), none, none]) (by repeat (first | exact trivial | refine And.intro rfl ?_)) ?_
              exact ih _ (by omega) z45 z90 (by omega) (by omega) (by omega) rfl
            · refine hA_iload (zs_iload em3_77) rfl ?_
              refine hA_goto (zs_goto em3_79 (t := 89) (by decide)) ?_
              refine hA_iastH (kd := 50) (len := 16) (zs_iast zInj0 em3_89) ⟨rfl, rfl, rfl⟩ (by omega) (by show _ < ((16 : Nat) : Int); omega) (eno rfl) ?_
              refine hA_iinc (c := 1) (zs_iinc (k := 1) em3_90 (by decide +kernel)) (by decide +kernel) rfl ⟨Nat.le_of_ble_eq_true rfl, rfl⟩ (by omega) (by omega) (fun z90' hz90' => ?_)
              show zAt _ _ _ _ _ _ _ _ _ _ [some (.inr (.inl (some 48))), some (.inl x1), some (.inl z45), some (.inl z90'), some (.inl z31), some (.inl z42)] _ _ _
              refine hA_goto (zs_goto em3_93 (t := 215) (by decide)) ?_
              refine hA_goto (zs_goto em3_215 (t := 12) (by decide)) ?_
              refine hA_fg (L' := [some (.inr (.inl (some 48))), some (.inl x1), some (.inl z45), some (.inl z90'), none, none]) (by repeat (first | exact trivial | refine And.intro rfl ?_)) ?_
              exact ih _ (by omega) z45 z90' (by omega) (by omega) (by omega) rfl
          · refine hA_const (k := 0) (zs_iconst (v := 0) em3_65 (by decide +kernel)) (by decide +kernel) (fun z65 hz65 => ?_)
            refine hA_ireturn ⟨rfl, em3_66⟩ ⟨Nat.le_refl _, Nat.le_refl _⟩ ?_
            exact ⟨⟨_, List.mem_cons_self, ⟨_, rfl, an_lo _, an_hi _⟩, hCh_nil, (fun id hl hn => rfl), (fun _ h => absurd h List.not_mem_nil)⟩, (fun _ => hInv), (fun _ id hid => rfl)⟩
        · refine hA_iload (zs_iload em3_53) rfl ?_
          refine hA_const (k := 1) (zs_iconst (v := 1) em3_55 (by decide +kernel)) (by decide +kernel) (fun z55 hz55 => ?_)
          refine hA_icmp (zs_icmpne em3_56 (t := 96) (by decide)) (fun (c56 : ¬ z31.toInt = z55.toInt) => ?_) (fun (c56 : ¬ ¬ z31.toInt = z55.toInt) => ?_)
          · refine hA_iload (zs_iload em3_96) rfl ?_
            refine hA_const (k := 7) (zs_bipush (v := 7) em3_98 (by decide +kernel)) (by decide +kernel) (fun z98 hz98 => ?_)
            refine hA_icmp (zs_icmpne em3_100 (t := 120) (by decide)) (fun (c100 : ¬ z31.toInt = z98.toInt) => ?_) (fun (c100 : ¬ ¬ z31.toInt = z98.toInt) => ?_)
            · refine hA_iload (zs_iload_n em3_120) rfl ?_
              refine hA_const (k := 2) (zs_iconst (v := 2) em3_121 (by decide +kernel)) (by decide +kernel) (fun z121 hz121 => ?_)
              refine hA_icmp (zs_icmplt em3_122 (t := 142) (by decide)) (fun (c122 : top.toInt < z121.toInt) => ?_) (fun (c122 : ¬ top.toInt < z121.toInt) => ?_)
              · refine hA_const (k := 0) (zs_iconst (v := 0) em3_142 (by decide +kernel)) (by decide +kernel) (fun z142 hz142 => ?_)
                refine hA_ireturn ⟨rfl, em3_143⟩ ⟨Nat.le_refl _, Nat.le_refl _⟩ ?_
                exact ⟨⟨_, List.mem_cons_self, ⟨_, rfl, an_lo _, an_hi _⟩, hCh_nil, (fun id hl hn => rfl), (fun _ h => absurd h List.not_mem_nil)⟩, (fun _ => hInv), (fun _ id hid => rfl)⟩
              · refine hA_iload (zs_iload em3_125) rfl ?_
                refine hA_const (k := 5) (zs_iconst (v := 5) em3_127 (by decide +kernel)) (by decide +kernel) (fun z127 hz127 => ?_)
                refine hA_icmp (zs_icmpne em3_128 (t := 144) (by decide)) (fun (c128 : ¬ z31.toInt = z127.toInt) => ?_) (fun (c128 : ¬ ¬ z31.toInt = z127.toInt) => ?_)
                · refine hA_iload (zs_iload em3_144) rfl ?_
                  refine hA_const (k := 6) (zs_bipush (v := 6) em3_146 (by decide +kernel)) (by decide +kernel) (fun z146 hz146 => ?_)
                  refine hA_icmp (zs_icmpne em3_148 (t := 185) (by decide)) (fun (c148 : ¬ z31.toInt = z146.toInt) => ?_) (fun (c148 : ¬ ¬ z31.toInt = z146.toInt) => ?_)
                  · refine hA_iinc (c := (-1)) (zs_iinc (k := (-1)) em3_185 (by decide +kernel)) (by decide +kernel) rfl ⟨Nat.le_of_ble_eq_true rfl, rfl⟩ (by omega) (by omega) (fun z185 hz185 => ?_)
                    show zAt _ _ _ _ _ _ _ _ _ _ [some (.inr (.inl (some 48))), some (.inl x1), some (.inl z45), some (.inl z185), some (.inl z31), some (.inl z42)] _ _ _
                    refine hA_aload (zs_aload_n em3_188) rfl ?_
                    refine hA_getf2 (r := 50) (zs_getf (T := TX1) (M := 3) (ci := 1) (j := 2) em3_189 rfl inX1 (by decide) wd_424 ((congrFun xo_2 15).trans rfl)) ⟨_, rfl, rfl⟩ ?_
                    refine hA_iload (zs_iload_n em3_192) rfl ?_
                    refine hA_const (k := 1) (zs_iconst (v := 1) em3_193 (by decide +kernel)) (by decide +kernel) (fun z193 hz193 => ?_)
                    refine hA_sub (zs_isub em3_194) (by omega) (by omega) (fun z194 hz194 => ?_)
                    refine hA_iload (zs_iload em3_195) rfl ?_
                    refine hA_aload (zs_aload_n em3_197) rfl ?_
                    refine hA_getf2 (r := 50) (zs_getf (T := TX1) (M := 3) (ci := 1) (j := 2) em3_198 rfl inX1 (by decide) wd_424 ((congrFun xo_2 15).trans rfl)) ⟨_, rfl, rfl⟩ ?_
                    refine hA_iload (zs_iload_n em3_201) rfl ?_
                    refine hA_const (k := 1) (zs_iconst (v := 1) em3_202 (by decide +kernel)) (by decide +kernel) (fun z202 hz202 => ?_)
                    refine hA_sub (zs_isub em3_203) (by omega) (by omega) (fun z203 hz203 => ?_)
                    refine hA_ialdH (kd := 50) (len := 16) (zs_iald em3_204) ⟨rfl, rfl, rfl⟩ (by omega) (by show _ < ((16 : Nat) : Int); omega) (fun z204 hz204 => ?_)
                    refine hA_aload (zs_aload_n em3_205) rfl ?_
                    refine hA_getf2 (r := 50) (zs_getf (T := TX1) (M := 3) (ci := 1) (j := 2) em3_206 rfl inX1 (by decide) wd_424 ((congrFun xo_2 15).trans rfl)) ⟨_, rfl, rfl⟩ ?_
                    refine hA_iload (zs_iload_n em3_209) rfl ?_
                    refine hA_ialdH (kd := 50) (len := 16) (zs_iald em3_210) ⟨rfl, rfl, rfl⟩ (by omega) (by show _ < ((16 : Nat) : Int); omega) (fun z210 hz210 => ?_)
                    refine hA_call (as := [.inl z31, .inl z204, .inl z210]) (rest := [.inl z194, .inr (.inl (some 50))]) (B' := (0, 0)) (zs_invS em3_211 zl_280 wd_886 wd_887 ((congrFun xo_2 87).trans rfl) xm_243) rfl (Nat.le_of_ble_eq_true rfl) rfl ⟨Nat.zero_le _, Nat.zero_le _⟩ (hpre_of rfl (show hpr_280 d [.inl z31, .inl z204, .inl z210] I from ⟨by show 1 ≤ d; omega, z31, z204, z210, rfl, trivial⟩)) (fun r211 I211 hp211 => ?_)
                    replace hp211 : hpo_280 _ _ _ _ := hpost_of rfl hp211
                    replace hp211 := hp211 z31 z204 z210 rfl
                    obtain ⟨z211, rfl, rfl⟩ := hp211
                    refine hA_iastH (kd := 50) (len := 16) (zs_iast zInj0 em3_214) ⟨rfl, rfl, rfl⟩ (by omega) (by show _ < ((16 : Nat) : Int); omega) (eno rfl) ?_
                    refine hA_goto (zs_goto em3_215 (t := 12) (by decide)) ?_
                    refine hA_fg (L' := [some (.inr (.inl (some 48))), some (.inl x1), some (.inl z45), some (.inl z185), none, none]) (by repeat (first | exact trivial | refine And.intro rfl ?_)) ?_
                    exact ih _ (by omega) z45 z185 (by omega) (by omega) (by omega) rfl
                  · refine hA_iinc (c := (-2)) (zs_iinc (k := (-2)) em3_151 (by decide +kernel)) (by decide +kernel) rfl ⟨Nat.le_of_ble_eq_true rfl, rfl⟩ (by omega) (by omega) (fun z151 hz151 => ?_)
                    show zAt _ _ _ _ _ _ _ _ _ _ [some (.inr (.inl (some 48))), some (.inl x1), some (.inl z45), some (.inl z151), some (.inl z31), some (.inl z42)] _ _ _
                    refine hA_aload (zs_aload_n em3_154) rfl ?_
                    refine hA_getf2 (r := 50) (zs_getf (T := TX1) (M := 3) (ci := 1) (j := 2) em3_155 rfl inX1 (by decide) wd_424 ((congrFun xo_2 15).trans rfl)) ⟨_, rfl, rfl⟩ ?_
                    refine hA_iload (zs_iload_n em3_158) rfl ?_
                    refine hA_ialdH (kd := 50) (len := 16) (zs_iald em3_159) ⟨rfl, rfl, rfl⟩ (by omega) (by show _ < ((16 : Nat) : Int); omega) (fun z159 hz159 => ?_)
                    refine hA_aload (zs_aload_n em3_160) rfl ?_
                    refine hA_getf2 (r := 50) (zs_getf (T := TX1) (M := 3) (ci := 1) (j := 2) em3_161 rfl inX1 (by decide) wd_424 ((congrFun xo_2 15).trans rfl)) ⟨_, rfl, rfl⟩ ?_
                    refine hA_iload (zs_iload_n em3_164) rfl ?_
                    refine hA_const (k := 1) (zs_iconst (v := 1) em3_165 (by decide +kernel)) (by decide +kernel) (fun z165 hz165 => ?_)
                    refine hA_add (zs_iadd em3_166) (by omega) (by omega) (fun z166 hz166 => ?_)
                    refine hA_ialdH (kd := 50) (len := 16) (zs_iald em3_167) ⟨rfl, rfl, rfl⟩ (by omega) (by show _ < ((16 : Nat) : Int); omega) (fun z167 hz167 => ?_)
                    refine hA_icmp (zs_icmpge em3_168 (t := 175) (by decide)) (fun (c168 : z167.toInt ≤ z159.toInt) => ?_) (fun (c168 : ¬ z167.toInt ≤ z159.toInt) => ?_)
                    · refine hA_iload (zs_iload_n em3_175) rfl ?_
                      refine hA_iload (zs_iload em3_176) rfl ?_
                      refine hA_max (zs_max em3_178 wd_885 wd_713 wd_129 wz_max ((congrFun xo_2 48).trans rfl)) (Nat.le_of_ble_eq_true rfl) (fun z178 hz178 hz178b hz178c => ?_)
                      refine hA_istore (L' := [some (.inr (.inl (some 48))), some (.inl x1), some (.inl z178), some (.inl z151), some (.inl z31), some (.inl z42)]) (zs_istore_n em3_181) ⟨Nat.le_of_ble_eq_true rfl, rfl⟩ rfl ?_
                      refine hA_goto (zs_goto em3_182 (t := 215) (by decide)) ?_
                      refine hA_goto (zs_goto em3_215 (t := 12) (by decide)) ?_
                      refine hA_fg (L' := [some (.inr (.inl (some 48))), some (.inl x1), some (.inl z178), some (.inl z151), none, none]) (by repeat (first | exact trivial | refine And.intro rfl ?_)) ?_
                      exact ih _ (by omega) z178 z151 (by omega) (by omega) (by omega) rfl
                    · refine hA_iload (zs_iload_n em3_171) rfl ?_
                      refine hA_goto (zs_goto em3_172 (t := 181) (by decide)) ?_
                      refine hA_istore (L' := [some (.inr (.inl (some 48))), some (.inl x1), some (.inl z45), some (.inl z151), some (.inl z31), some (.inl z42)]) (zs_istore_n em3_181) ⟨Nat.le_of_ble_eq_true rfl, rfl⟩ rfl ?_
                      refine hA_goto (zs_goto em3_182 (t := 215) (by decide)) ?_
                      refine hA_goto (zs_goto em3_215 (t := 12) (by decide)) ?_
                      refine hA_fg (L' := [some (.inr (.inl (some 48))), some (.inl x1), some (.inl z45), some (.inl z151), none, none]) (by repeat (first | exact trivial | refine And.intro rfl ?_)) ?_
                      exact ih _ (by omega) z45 z151 (by omega) (by omega) (by omega) rfl
                · refine hA_aload (zs_aload_n em3_131) rfl ?_
                  refine hA_getf2 (r := 50) (zs_getf (T := TX1) (M := 3) (ci := 1) (j := 2) em3_132 rfl inX1 (by decide) wd_424 ((congrFun xo_2 15).trans rfl)) ⟨_, rfl, rfl⟩ ?_
                  refine hA_iload (zs_iload_n em3_135) rfl ?_
                  refine hA_const (k := 1) (zs_iconst (v := 1) em3_136 (by decide +kernel)) (by decide +kernel) (fun z136 hz136 => ?_)
                  refine hA_sub (zs_isub em3_137) (by omega) (by omega) (fun z137 hz137 => ?_)
                  refine hA_ialdH (kd := 50) (len := 16) (zs_iald em3_138) ⟨rfl, rfl, rfl⟩ (by omega) (by show _ < ((16 : Nat) : Int); omega) (fun z138 hz138 => ?_)
                  refine hA_if (zs_ifne em3_139 (t := 144) (by decide)) (fun (c139 : ¬ z138.toInt = 0) => ?_) (fun (c139 : ¬ ¬ z138.toInt = 0) => ?_)
                  · refine hA_iload (zs_iload em3_144) rfl ?_
                    refine hA_const (k := 6) (zs_bipush (v := 6) em3_146 (by decide +kernel)) (by decide +kernel) (fun z146' hz146' => ?_)
                    refine hA_icmp (zs_icmpne em3_148 (t := 185) (by decide)) (fun (c148' : ¬ z31.toInt = z146'.toInt) => ?_) (fun (c148' : ¬ ¬ z31.toInt = z146'.toInt) => ?_)
                    · refine hA_iinc (c := (-1)) (zs_iinc (k := (-1)) em3_185 (by decide +kernel)) (by decide +kernel) rfl ⟨Nat.le_of_ble_eq_true rfl, rfl⟩ (by omega) (by omega) (fun z185' hz185' => ?_)
                      show zAt _ _ _ _ _ _ _ _ _ _ [some (.inr (.inl (some 48))), some (.inl x1), some (.inl z45), some (.inl z185'), some (.inl z31), some (.inl z42)] _ _ _
                      refine hA_aload (zs_aload_n em3_188) rfl ?_
                      refine hA_getf2 (r := 50) (zs_getf (T := TX1) (M := 3) (ci := 1) (j := 2) em3_189 rfl inX1 (by decide) wd_424 ((congrFun xo_2 15).trans rfl)) ⟨_, rfl, rfl⟩ ?_
                      refine hA_iload (zs_iload_n em3_192) rfl ?_
                      refine hA_const (k := 1) (zs_iconst (v := 1) em3_193 (by decide +kernel)) (by decide +kernel) (fun z193' hz193' => ?_)
                      refine hA_sub (zs_isub em3_194) (by omega) (by omega) (fun z194' hz194' => ?_)
                      refine hA_iload (zs_iload em3_195) rfl ?_
                      refine hA_aload (zs_aload_n em3_197) rfl ?_
                      refine hA_getf2 (r := 50) (zs_getf (T := TX1) (M := 3) (ci := 1) (j := 2) em3_198 rfl inX1 (by decide) wd_424 ((congrFun xo_2 15).trans rfl)) ⟨_, rfl, rfl⟩ ?_
                      refine hA_iload (zs_iload_n em3_201) rfl ?_
                      refine hA_const (k := 1) (zs_iconst (v := 1) em3_202 (by decide +kernel)) (by decide +kernel) (fun z202' hz202' => ?_)
                      refine hA_sub (zs_isub em3_203) (by omega) (by omega) (fun z203' hz203' => ?_)
                      refine hA_ialdH (kd := 50) (len := 16) (zs_iald em3_204) ⟨rfl, rfl, rfl⟩ (by omega) (by show _ < ((16 : Nat) : Int); omega) (fun z204' hz204' => ?_)
                      refine hA_aload (zs_aload_n em3_205) rfl ?_
                      refine hA_getf2 (r := 50) (zs_getf (T := TX1) (M := 3) (ci := 1) (j := 2) em3_206 rfl inX1 (by decide) wd_424 ((congrFun xo_2 15).trans rfl)) ⟨_, rfl, rfl⟩ ?_
                      refine hA_iload (zs_iload_n em3_209) rfl ?_
                      refine hA_ialdH (kd := 50) (len := 16) (zs_iald em3_210) ⟨rfl, rfl, rfl⟩ (by omega) (by show _ < ((16 : Nat) : Int); omega) (fun z210' hz210' => ?_)
                      refine hA_call (as := [.inl z31, .inl z204', .inl z210']) (rest := [.inl z194', .inr (.inl (some 50))]) (B' := (0, 0)) (zs_invS em3_211 zl_280 wd_886 wd_887 ((congrFun xo_2 87).trans rfl) xm_243) rfl (Nat.le_of_ble_eq_true rfl) rfl ⟨Nat.zero_le _, Nat.zero_le _⟩ (hpre_of rfl (show hpr_280 d [.inl z31, .inl z204', .inl z210'] I from ⟨by show 1 ≤ d; omega, z31, z204', z210', rfl, trivial⟩)) (fun r211 I211 hp211 => ?_)
                      replace hp211 : hpo_280 _ _ _ _ := hpost_of rfl hp211
                      replace hp211 := hp211 z31 z204' z210' rfl
                      obtain ⟨z211, rfl, rfl⟩ := hp211
                      refine hA_iastH (kd := 50) (len := 16) (zs_iast zInj0 em3_214) ⟨rfl, rfl, rfl⟩ (by omega) (by show _ < ((16 : Nat) : Int); omega) (eno rfl) ?_
                      refine hA_goto (zs_goto em3_215 (t := 12) (by decide)) ?_
                      refine hA_fg (L' := [some (.inr (.inl (some 48))), some (.inl x1), some (.inl z45), some (.inl z185'), none, none]) (by repeat (first | exact trivial | refine And.intro rfl ?_)) ?_
                      exact ih _ (by omega) z45 z185' (by omega) (by omega) (by omega) rfl
                    · refine hA_iinc (c := (-2)) (zs_iinc (k := (-2)) em3_151 (by decide +kernel)) (by decide +kernel) rfl ⟨Nat.le_of_ble_eq_true rfl, rfl⟩ (by omega) (by omega) (fun z151' hz151' => ?_)
                      show zAt _ _ _ _ _ _ _ _ _ _ [some (.inr (.inl (some 48))), some (.inl x1), some (.inl z45), some (.inl z151'), some (.inl z31), some (.inl z42)] _ _ _
                      refine hA_aload (zs_aload_n em3_154) rfl ?_
                      refine hA_getf2 (r := 50) (zs_getf (T := TX1) (M := 3) (ci := 1) (j := 2) em3_155 rfl inX1 (by decide) wd_424 ((congrFun xo_2 15).trans rfl)) ⟨_, rfl, rfl⟩ ?_
                      refine hA_iload (zs_iload_n em3_158) rfl ?_
                      refine hA_ialdH (kd := 50) (len := 16) (zs_iald em3_159) ⟨rfl, rfl, rfl⟩ (by omega) (by show _ < ((16 : Nat) : Int); omega) (fun z159' hz159' => ?_)
                      refine hA_aload (zs_aload_n em3_160) rfl ?_
                      refine hA_getf2 (r := 50) (zs_getf (T := TX1) (M := 3) (ci := 1) (j := 2) em3_161 rfl inX1 (by decide) wd_424 ((congrFun xo_2 15).trans rfl)) ⟨_, rfl, rfl⟩ ?_
                      refine hA_iload (zs_iload_n em3_164) rfl ?_
                      refine hA_const (k := 1) (zs_iconst (v := 1) em3_165 (by decide +kernel)) (by decide +kernel) (fun z165' hz165' => ?_)
                      refine hA_add (zs_iadd em3_166) (by omega) (by omega) (fun z166' hz166' => ?_)
                      refine hA_ialdH (kd := 50) (len := 16) (zs_iald em3_167) ⟨rfl, rfl, rfl⟩ (by omega) (by show _ < ((16 : Nat) : Int); omega) (fun z167' hz167' => ?_)
                      refine hA_icmp (zs_icmpge em3_168 (t := 175) (by decide)) (fun (c168' : z167'.toInt ≤ z159'.toInt) => ?_) (fun (c168' : ¬ z167'.toInt ≤ z159'.toInt) => ?_)
                      · refine hA_iload (zs_iload_n em3_175) rfl ?_
                        refine hA_iload (zs_iload em3_176) rfl ?_
                        refine hA_max (zs_max em3_178 wd_885 wd_713 wd_129 wz_max ((congrFun xo_2 48).trans rfl)) (Nat.le_of_ble_eq_true rfl) (fun z178' hz178' hz178'b hz178'c => ?_)
                        refine hA_istore (L' := [some (.inr (.inl (some 48))), some (.inl x1), some (.inl z178'), some (.inl z151'), some (.inl z31), some (.inl z42)]) (zs_istore_n em3_181) ⟨Nat.le_of_ble_eq_true rfl, rfl⟩ rfl ?_
                        refine hA_goto (zs_goto em3_182 (t := 215) (by decide)) ?_
                        refine hA_goto (zs_goto em3_215 (t := 12) (by decide)) ?_
                        refine hA_fg (L' := [some (.inr (.inl (some 48))), some (.inl x1), some (.inl z178'), some (.inl z151'), none, none]) (by repeat (first | exact trivial | refine And.intro rfl ?_)) ?_
                        exact ih _ (by omega) z178' z151' (by omega) (by omega) (by omega) rfl
                      · refine hA_iload (zs_iload_n em3_171) rfl ?_
                        refine hA_goto (zs_goto em3_172 (t := 181) (by decide)) ?_
                        refine hA_istore (L' := [some (.inr (.inl (some 48))), some (.inl x1), some (.inl z45), some (.inl z151'), some (.inl z31), some (.inl z42)]) (zs_istore_n em3_181) ⟨Nat.le_of_ble_eq_true rfl, rfl⟩ rfl ?_
                        refine hA_goto (zs_goto em3_182 (t := 215) (by decide)) ?_
                        refine hA_goto (zs_goto em3_215 (t := 12) (by decide)) ?_
                        refine hA_fg (L' := [some (.inr (.inl (some 48))), some (.inl x1), some (.inl z45), some (.inl z151'), none, none]) (by repeat (first | exact trivial | refine And.intro rfl ?_)) ?_
                        exact ih _ (by omega) z45 z151' (by omega) (by omega) (by omega) rfl
                  · refine hA_const (k := 0) (zs_iconst (v := 0) em3_142 (by decide +kernel)) (by decide +kernel) (fun z142' hz142' => ?_)
                    refine hA_ireturn ⟨rfl, em3_143⟩ ⟨Nat.le_refl _, Nat.le_refl _⟩ ?_
                    exact ⟨⟨_, List.mem_cons_self, ⟨_, rfl, an_lo _, an_hi _⟩, hCh_nil, (fun id hl hn => rfl), (fun _ h => absurd h List.not_mem_nil)⟩, (fun _ => hInv), (fun _ id hid => rfl)⟩
            · refine hA_iload (zs_iload_n em3_103) rfl ?_
              refine hA_if (zs_ifle em3_104 (t := 118) (by decide)) (fun (c104 : top.toInt ≤ 0) => ?_) (fun (c104 : ¬ top.toInt ≤ 0) => ?_)
              · refine hA_const (k := 0) (zs_iconst (v := 0) em3_118 (by decide +kernel)) (by decide +kernel) (fun z118 hz118 => ?_)
                refine hA_ireturn ⟨rfl, em3_119⟩ ⟨Nat.le_refl _, Nat.le_refl _⟩ ?_
                exact ⟨⟨_, List.mem_cons_self, ⟨_, rfl, an_lo _, an_hi _⟩, hCh_nil, (fun id hl hn => rfl), (fun _ h => absurd h List.not_mem_nil)⟩, (fun _ => hInv), (fun _ id hid => rfl)⟩
              · refine hA_aload (zs_aload_n em3_107) rfl ?_
                refine hA_getf2 (r := 50) (zs_getf (T := TX1) (M := 3) (ci := 1) (j := 2) em3_108 rfl inX1 (by decide) wd_424 ((congrFun xo_2 15).trans rfl)) ⟨_, rfl, rfl⟩ ?_
                refine hA_iload (zs_iload_n em3_111) rfl ?_
                refine hA_const (k := 1) (zs_iconst (v := 1) em3_112 (by decide +kernel)) (by decide +kernel) (fun z112 hz112 => ?_)
                refine hA_sub (zs_isub em3_113) (by omega) (by omega) (fun z113 hz113 => ?_)
                refine hA_ialdH (kd := 50) (len := 16) (zs_iald em3_114) ⟨rfl, rfl, rfl⟩ (by omega) (by show _ < ((16 : Nat) : Int); omega) (fun z114 hz114 => ?_)
                refine hA_goto (zs_goto em3_115 (t := 119) (by decide)) ?_
                refine hA_ireturn ⟨rfl, em3_119⟩ ⟨Nat.le_refl _, Nat.le_refl _⟩ ?_
                exact ⟨⟨_, List.mem_cons_self, ⟨_, rfl, an_lo _, an_hi _⟩, hCh_nil, (fun id hl hn => rfl), (fun _ h => absurd h List.not_mem_nil)⟩, (fun _ => hInv), (fun _ id hid => rfl)⟩
          · refine hA_iload (zs_iload_n em3_59) rfl ?_
            refine hA_const (k := 16) (zs_bipush (v := 16) em3_60 (by decide +kernel)) (by decide +kernel) (fun z60' hz60' => ?_)
            refine hA_icmp (zs_icmplt em3_62 (t := 67) (by decide)) (fun (c62' : top.toInt < z60'.toInt) => ?_) (fun (c62' : ¬ top.toInt < z60'.toInt) => ?_)
            · refine hA_aload (zs_aload_n em3_67) rfl ?_
              refine hA_getf2 (r := 50) (zs_getf (T := TX1) (M := 3) (ci := 1) (j := 2) em3_68 rfl inX1 (by decide) wd_424 ((congrFun xo_2 15).trans rfl)) ⟨_, rfl, rfl⟩ ?_
              refine hA_iload (zs_iload_n em3_71) rfl ?_
              refine hA_iload (zs_iload em3_72) rfl ?_
              refine hA_if (zs_ifne em3_74 (t := 82) (by decide)) (fun (c74' : ¬ z31.toInt = 0) => ?_) (fun (c74' : ¬ ¬ z31.toInt = 0) => ?_)
              · refine hA_aload (zs_aload_n em3_82) rfl ?_
                refine hA_getf2 (r := 49) (zs_getf (T := TX1) (M := 3) (ci := 1) (j := 1) em3_83 rfl inX1 (by decide) wd_423 ((congrFun xo_2 11).trans rfl)) ⟨_, rfl, rfl⟩ ?_
                refine hA_iload (zs_iload em3_86) rfl ?_
                have hop := jstp hInv (i := at0.toInt) (by omega) (by omega) (by omega)
                refine hA_ialdH (kd := 49) (len := 9) (zs_iald em3_88) ⟨rfl, rfl, rfl⟩ (by omega) (by show _ < ((9 : Nat) : Int); omega) (fun z88' hz88' => ?_)
                refine hA_iastH (kd := 50) (len := 16) (zs_iast zInj0 em3_89) ⟨rfl, rfl, rfl⟩ (by omega) (by show _ < ((16 : Nat) : Int); omega) (eno rfl) ?_
                refine hA_iinc (c := 1) (zs_iinc (k := 1) em3_90 (by decide +kernel)) (by decide +kernel) rfl ⟨Nat.le_of_ble_eq_true rfl, rfl⟩ (by omega) (by omega) (fun z90'' hz90'' => ?_)
                show zAt _ _ _ _ _ _ _ _ _ _ [some (.inr (.inl (some 48))), some (.inl x1), some (.inl z45), some (.inl z90''), some (.inl z31), some (.inl z42)] _ _ _
                refine hA_goto (zs_goto em3_93 (t := 215) (by decide)) ?_
                refine hA_goto (zs_goto em3_215 (t := 12) (by decide)) ?_
                refine hA_fg (L' := [some (.inr (.inl (some 48))), some (.inl x1), some (.inl z45), some (.inl z90''), none, none]) (by repeat (first | exact trivial | refine And.intro rfl ?_)) ?_
                exact ih _ (by omega) z45 z90'' (by omega) (by omega) (by omega) rfl
              · refine hA_iload (zs_iload em3_77) rfl ?_
                refine hA_goto (zs_goto em3_79 (t := 89) (by decide)) ?_
                refine hA_iastH (kd := 50) (len := 16) (zs_iast zInj0 em3_89) ⟨rfl, rfl, rfl⟩ (by omega) (by show _ < ((16 : Nat) : Int); omega) (eno rfl) ?_
                refine hA_iinc (c := 1) (zs_iinc (k := 1) em3_90 (by decide +kernel)) (by decide +kernel) rfl ⟨Nat.le_of_ble_eq_true rfl, rfl⟩ (by omega) (by omega) (fun z90_3 hz90_3 => ?_)
                show zAt _ _ _ _ _ _ _ _ _ _ [some (.inr (.inl (some 48))), some (.inl x1), some (.inl z45), some (.inl z90_3), some (.inl z31), some (.inl z42)] _ _ _
                refine hA_goto (zs_goto em3_93 (t := 215) (by decide)) ?_
                refine hA_goto (zs_goto em3_215 (t := 12) (by decide)) ?_
                refine hA_fg (L' := [some (.inr (.inl (some 48))), some (.inl x1), some (.inl z45), some (.inl z90_3), none, none]) (by repeat (first | exact trivial | refine And.intro rfl ?_)) ?_
                exact ih _ (by omega) z45 z90_3 (by omega) (by omega) (by omega) rfl
            · refine hA_const (k := 0) (zs_iconst (v := 0) em3_65 (by decide +kernel)) (by decide +kernel) (fun z65' hz65' => ?_)
              refine hA_ireturn ⟨rfl, em3_66⟩ ⟨Nat.le_refl _, Nat.le_refl _⟩ ?_
              exact ⟨⟨_, List.mem_cons_self, ⟨_, rfl, an_lo _, an_hi _⟩, hCh_nil, (fun id hl hn => rfl), (fun _ h => absurd h List.not_mem_nil)⟩, (fun _ => hInv), (fun _ id hid => rfl)⟩
  refine hmet (L := [some (.inr (.inl (some 48))), some (.inl x1), none, none, none, none]) (by decide) (Nat.le_of_ble_eq_true rfl) hc rfl ?_
  refine hA_aload (zs_aload_n em3_0) rfl ?_
  refine hA_getf2 (r := 2) (zs_getf (T := TX1) (M := 3) (ci := 1) (j := 0) em3_1 rfl inX1 (by decide) wd_422 ((congrFun xo_2 18).trans rfl)) ⟨_, rfl, rfl⟩ ?_
  refine hA_getf2 (r := 9) (zs_getf (T := TX6) (M := 15) (ci := 6) (j := 11) em3_4 rfl inX6 (by decide) wd_212 ((congrFun xo_2 75).trans rfl)) ⟨_, rfl, rfl⟩ ?_
  refine hA_iload (zs_iload_n em3_7) rfl ?_
  refine hA_ialdH (kd := 9) (len := 4) (zs_iald em3_8) ⟨rfl, rfl, rfl⟩ (by omega) (by show _ < ((4 : Nat) : Int); omega) (fun z8 hz8 => ?_)
  have hbz8 : (0 : Int) ≤ z8.toInt ∧ z8.toInt ≤ 408 := eall rfl hz8
  refine hA_istore (L' := [some (.inr (.inl (some 48))), some (.inl x1), some (.inl z8), none, none, none]) (zs_istore_n em3_9) ⟨Nat.le_of_ble_eq_true rfl, rfl⟩ rfl ?_
  refine hA_const (k := 0) (zs_iconst (v := 0) em3_10 (by decide +kernel)) (by decide +kernel) (fun z10 hz10 => ?_)
  refine hA_istore (L' := [some (.inr (.inl (some 48))), some (.inl x1), some (.inl z8), some (.inl z10), none, none]) (zs_istore_n em3_11) ⟨Nat.le_of_ble_eq_true rfl, rfl⟩ rfl ?_
  refine hA_fg (L' := [some (.inr (.inl (some 48))), some (.inl x1), some (.inl z8), some (.inl z10), none, none]) (by repeat (first | exact trivial | refine And.intro rfl ?_)) ?_
  exact loop _ z8 z10 (by omega) (by omega) (by omega) rfl
theorem em24_0 : decode prog_5_method_3_code 0 = .ok (.iload_n 2, 1) := by decide +kernel
theorem em24_1 : decode prog_5_method_3_code 1 = .ok (.bipush 8, 2) := by decide +kernel
theorem em24_3 : decode prog_5_method_3_code 3 = .ok (.imul, 1) := by decide +kernel
theorem em24_4 : decode prog_5_method_3_code 4 = .ok (.iload_n 3, 1) := by decide +kernel
theorem em24_5 : decode prog_5_method_3_code 5 = .ok (.iadd, 1) := by decide +kernel
theorem em24_6 : decode prog_5_method_3_code 6 = .ok (.iconst 5, 1) := by decide +kernel
theorem em24_7 : decode prog_5_method_3_code 7 = .ok (.imul, 1) := by decide +kernel
theorem em24_8 : decode prog_5_method_3_code 8 = .ok (.istore 4, 2) := by decide +kernel
theorem em24_10 : decode prog_5_method_3_code 10 = .ok (.iconst 0, 1) := by decide +kernel
theorem em24_11 : decode prog_5_method_3_code 11 = .ok (.istore 5, 2) := by decide +kernel
theorem em24_13 : decode prog_5_method_3_code 13 = .ok (.iconst 0, 1) := by decide +kernel
theorem em24_14 : decode prog_5_method_3_code 14 = .ok (.istore 6, 2) := by decide +kernel
theorem em24_16 : decode prog_5_method_3_code 16 = .ok (.iload 6, 2) := by decide +kernel
theorem em24_18 : decode prog_5_method_3_code 18 = .ok (.aload_n 0, 1) := by decide +kernel
theorem em24_19 : decode prog_5_method_3_code 19 = .ok (.getfield 30, 3) := by decide +kernel
theorem em24_22 : decode prog_5_method_3_code 22 = .ok (.getfield 73, 3) := by decide +kernel
theorem em24_25 : decode prog_5_method_3_code 25 = .ok (.if_icmp .ge 143, 3) := by decide +kernel
theorem em24_28 : decode prog_5_method_3_code 28 = .ok (.aload_n 0, 1) := by decide +kernel
theorem em24_29 : decode prog_5_method_3_code 29 = .ok (.getfield 9, 3) := by decide +kernel
theorem em24_32 : decode prog_5_method_3_code 32 = .ok (.iload 6, 2) := by decide +kernel
theorem em24_34 : decode prog_5_method_3_code 34 = .ok (.bipush 8, 2) := by decide +kernel
theorem em24_36 : decode prog_5_method_3_code 36 = .ok (.imul, 1) := by decide +kernel
theorem em24_37 : decode prog_5_method_3_code 37 = .ok (.iload_n 3, 1) := by decide +kernel
theorem em24_38 : decode prog_5_method_3_code 38 = .ok (.iadd, 1) := by decide +kernel
theorem em24_39 : decode prog_5_method_3_code 39 = .ok (.iaload, 1) := by decide +kernel
theorem em24_40 : decode prog_5_method_3_code 40 = .ok (.ifCond .eq 122, 3) := by decide +kernel
theorem em24_43 : decode prog_5_method_3_code 43 = .ok (.aload_n 0, 1) := by decide +kernel
theorem em24_44 : decode prog_5_method_3_code 44 = .ok (.getfield 34, 3) := by decide +kernel
theorem em24_47 : decode prog_5_method_3_code 47 = .ok (.aload_n 1, 1) := by decide +kernel
theorem em24_48 : decode prog_5_method_3_code 48 = .ok (.iload 6, 2) := by decide +kernel
theorem em24_50 : decode prog_5_method_3_code 50 = .ok (.iload_n 3, 1) := by decide +kernel
theorem em24_51 : decode prog_5_method_3_code 51 = .ok (.iload_n 2, 1) := by decide +kernel
theorem em24_52 : decode prog_5_method_3_code 52 = .ok (.invokevirtual 76, 3) := by decide +kernel
theorem em24_55 : decode prog_5_method_3_code 55 = .ok (.ifCond .ne 6, 3) := by decide +kernel
theorem em24_58 : decode prog_5_method_3_code 58 = .ok (.goto 104, 3) := by decide +kernel
theorem em24_61 : decode prog_5_method_3_code 61 = .ok (.aload_n 0, 1) := by decide +kernel
theorem em24_62 : decode prog_5_method_3_code 62 = .ok (.getfield 34, 3) := by decide +kernel
theorem em24_65 : decode prog_5_method_3_code 65 = .ok (.aload_n 1, 1) := by decide +kernel
theorem em24_66 : decode prog_5_method_3_code 66 = .ok (.iload 6, 2) := by decide +kernel
theorem em24_68 : decode prog_5_method_3_code 68 = .ok (.iload_n 3, 1) := by decide +kernel
theorem em24_69 : decode prog_5_method_3_code 69 = .ok (.iload_n 2, 1) := by decide +kernel
theorem em24_70 : decode prog_5_method_3_code 70 = .ok (.invokevirtual 80, 3) := by decide +kernel
theorem em24_73 : decode prog_5_method_3_code 73 = .ok (.istore 7, 2) := by decide +kernel
theorem em24_75 : decode prog_5_method_3_code 75 = .ok (.iload 4, 2) := by decide +kernel
theorem em24_77 : decode prog_5_method_3_code 77 = .ok (.iload 5, 2) := by decide +kernel
theorem em24_79 : decode prog_5_method_3_code 79 = .ok (.iadd, 1) := by decide +kernel
theorem em24_80 : decode prog_5_method_3_code 80 = .ok (.istore 8, 2) := by decide +kernel
theorem em24_82 : decode prog_5_method_3_code 82 = .ok (.iload 8, 2) := by decide +kernel
theorem em24_84 : decode prog_5_method_3_code 84 = .ok (.iload 4, 2) := by decide +kernel
theorem em24_86 : decode prog_5_method_3_code 86 = .ok (.if_icmp .le 55, 3) := by decide +kernel
theorem em24_89 : decode prog_5_method_3_code 89 = .ok (.aload_n 0, 1) := by decide +kernel
theorem em24_90 : decode prog_5_method_3_code 90 = .ok (.getfield 24, 3) := by decide +kernel
theorem em24_93 : decode prog_5_method_3_code 93 = .ok (.iload 8, 2) := by decide +kernel
theorem em24_95 : decode prog_5_method_3_code 95 = .ok (.iconst 1, 1) := by decide +kernel
theorem em24_96 : decode prog_5_method_3_code 96 = .ok (.isub, 1) := by decide +kernel
theorem em24_97 : decode prog_5_method_3_code 97 = .ok (.iaload, 1) := by decide +kernel
theorem em24_98 : decode prog_5_method_3_code 98 = .ok (.iload 7, 2) := by decide +kernel
theorem em24_100 : decode prog_5_method_3_code 100 = .ok (.if_icmp .ge 41, 3) := by decide +kernel
theorem em24_103 : decode prog_5_method_3_code 103 = .ok (.aload_n 0, 1) := by decide +kernel
theorem em24_104 : decode prog_5_method_3_code 104 = .ok (.getfield 21, 3) := by decide +kernel
theorem em24_107 : decode prog_5_method_3_code 107 = .ok (.iload 8, 2) := by decide +kernel
theorem em24_109 : decode prog_5_method_3_code 109 = .ok (.aload_n 0, 1) := by decide +kernel
theorem em24_110 : decode prog_5_method_3_code 110 = .ok (.getfield 21, 3) := by decide +kernel
theorem em24_113 : decode prog_5_method_3_code 113 = .ok (.iload 8, 2) := by decide +kernel
theorem em24_115 : decode prog_5_method_3_code 115 = .ok (.iconst 1, 1) := by decide +kernel
theorem em24_116 : decode prog_5_method_3_code 116 = .ok (.isub, 1) := by decide +kernel
theorem em24_117 : decode prog_5_method_3_code 117 = .ok (.iaload, 1) := by decide +kernel
theorem em24_118 : decode prog_5_method_3_code 118 = .ok (.iastore, 1) := by decide +kernel
theorem em24_119 : decode prog_5_method_3_code 119 = .ok (.aload_n 0, 1) := by decide +kernel
theorem em24_120 : decode prog_5_method_3_code 120 = .ok (.getfield 24, 3) := by decide +kernel
theorem em24_123 : decode prog_5_method_3_code 123 = .ok (.iload 8, 2) := by decide +kernel
theorem em24_125 : decode prog_5_method_3_code 125 = .ok (.aload_n 0, 1) := by decide +kernel
theorem em24_126 : decode prog_5_method_3_code 126 = .ok (.getfield 24, 3) := by decide +kernel
theorem em24_129 : decode prog_5_method_3_code 129 = .ok (.iload 8, 2) := by decide +kernel
theorem em24_131 : decode prog_5_method_3_code 131 = .ok (.iconst 1, 1) := by decide +kernel
theorem em24_132 : decode prog_5_method_3_code 132 = .ok (.isub, 1) := by decide +kernel
theorem em24_133 : decode prog_5_method_3_code 133 = .ok (.iaload, 1) := by decide +kernel
theorem em24_134 : decode prog_5_method_3_code 134 = .ok (.iastore, 1) := by decide +kernel
theorem em24_135 : decode prog_5_method_3_code 135 = .ok (.iinc 8 (-1), 3) := by decide +kernel
theorem em24_138 : decode prog_5_method_3_code 138 = .ok (.goto (-56), 3) := by decide +kernel
theorem em24_141 : decode prog_5_method_3_code 141 = .ok (.aload_n 0, 1) := by decide +kernel
theorem em24_142 : decode prog_5_method_3_code 142 = .ok (.getfield 21, 3) := by decide +kernel
theorem em24_145 : decode prog_5_method_3_code 145 = .ok (.iload 8, 2) := by decide +kernel
theorem em24_147 : decode prog_5_method_3_code 147 = .ok (.iload 6, 2) := by decide +kernel
theorem em24_149 : decode prog_5_method_3_code 149 = .ok (.iastore, 1) := by decide +kernel
theorem em24_150 : decode prog_5_method_3_code 150 = .ok (.aload_n 0, 1) := by decide +kernel
theorem em24_151 : decode prog_5_method_3_code 151 = .ok (.getfield 24, 3) := by decide +kernel
theorem em24_154 : decode prog_5_method_3_code 154 = .ok (.iload 8, 2) := by decide +kernel
theorem em24_156 : decode prog_5_method_3_code 156 = .ok (.iload 7, 2) := by decide +kernel
theorem em24_158 : decode prog_5_method_3_code 158 = .ok (.iastore, 1) := by decide +kernel
theorem em24_159 : decode prog_5_method_3_code 159 = .ok (.iinc 5 1, 3) := by decide +kernel
theorem em24_162 : decode prog_5_method_3_code 162 = .ok (.iinc 6 1, 3) := by decide +kernel
theorem em24_165 : decode prog_5_method_3_code 165 = .ok (.goto (-149), 3) := by decide +kernel
theorem em24_168 : decode prog_5_method_3_code 168 = .ok (.aload_n 0, 1) := by decide +kernel
theorem em24_169 : decode prog_5_method_3_code 169 = .ok (.getfield 27, 3) := by decide +kernel
theorem em24_172 : decode prog_5_method_3_code 172 = .ok (.iload_n 2, 1) := by decide +kernel
theorem em24_173 : decode prog_5_method_3_code 173 = .ok (.bipush 8, 2) := by decide +kernel
theorem em24_175 : decode prog_5_method_3_code 175 = .ok (.imul, 1) := by decide +kernel
theorem em24_176 : decode prog_5_method_3_code 176 = .ok (.iload_n 3, 1) := by decide +kernel
theorem em24_177 : decode prog_5_method_3_code 177 = .ok (.iadd, 1) := by decide +kernel
theorem em24_178 : decode prog_5_method_3_code 178 = .ok (.iload 5, 2) := by decide +kernel
theorem em24_180 : decode prog_5_method_3_code 180 = .ok (.iastore, 1) := by decide +kernel
theorem em24_181 : decode prog_5_method_3_code 181 = .ok (.return_, 1) := by decide +kernel
set_option maxRecDepth 10000 in
set_option maxHeartbeats 4000000 in
theorem hM_24 : zOKh 24 zc_24 := by
  intro d hc as I q h hq
  obtain ⟨hd, ⟨_, _, rfl, ⟨r0, rfl, hk_r0⟩, ⟨_, _, rfl, ⟨r1, rfl, hk_r1⟩, ⟨_, _, rfl, ⟨x2, rfl, hx2, hx2b⟩, ⟨_, _, rfl, ⟨x3, rfl, hx3, hx3b⟩, rfl⟩⟩⟩⟩, hF, hI⟩ := h
  have hd : 20 ≤ d + 1 := hd
  have hx2 : (0 : Int) ≤ x2.toInt := hx2
  have hx2b : x2.toInt ≤ (6 : Int) := hx2b
  have hx3 : (0 : Int) ≤ x3.toInt := hx3
  have hx3b : x3.toInt ≤ (7 : Int) := hx3b
  have hf4 : (0 : Int) ≤ zf I 4 ∧ zf I 4 ≤ (408 : Int) := hF _ List.mem_cons_self
  have hInv : zInv I := hI rfl
  cases (show some _ = some q from hq)
  have loop : ∀ (n : Nat) (bs : Int32) (hb0 : 0 ≤ bs.toInt) (hb1 : bs.toInt ≤ 275) (cn : Int32) (ho : Int32) (hc0 : 0 ≤ cn.toInt) (hch : cn.toInt ≤ ho.toInt) (hho : ho.toInt ≤ 5), (5 - ho.toInt).toNat = n → zAt zG0 PZ zbd zpre zpost (d, (zbd 24).1, (zbd 24).2) prog_5_method_3_code "CapitalCase$Planner" (zRet prog_5_method_3_code none (zbd 24) (fun r I' => aPost zInv zc_24 [.inr (.inl (some r0)), .inr (.inl (some r1)), .inl x2, .inl x3] I r I')) 16 [some (.inr (.inl (some r0))), some (.inr (.inl (some r1))), some (.inl x2), some (.inl x3), some (.inl bs), some (.inl cn), some (.inl ho), none, none] [] I (0, 0) := by
    intro n
    induction n using Nat.strongRecOn with
    | ind n ih =>
      intro bs hb0 hb1 cn ho hc0 hch hho hn
      have loop2 : ∀ (n : Nat) (rk : Int32) (at1 : Int32) (hi0 : bs.toInt ≤ at1.toInt) (hi1 : at1.toInt ≤ bs.toInt + cn.toInt) (hho4 : ho.toInt ≤ 4), (at1.toInt).toNat = n → zAt zG0 PZ zbd zpre zpost (d, (zbd 24).1, (zbd 24).2) prog_5_method_3_code "CapitalCase$Planner" (zRet prog_5_method_3_code none (zbd 24) (fun r I' => aPost zInv zc_24 [.inr (.inl (some r0)), .inr (.inl (some r1)), .inl x2, .inl x3] I r I')) 82 [some (.inr (.inl (some r0))), some (.inr (.inl (some r1))), some (.inl x2), some (.inl x3), some (.inl bs), some (.inl cn), some (.inl ho), some (.inl rk), some (.inl at1)] [] I (0, 0) := by
        intro n
        induction n using Nat.strongRecOn with
        | ind n ih2 =>
          intro rk at1 hi0 hi1 hho4 hn2
          refine hA_iload (zs_iload em24_82) rfl ?_
          refine hA_iload (zs_iload em24_84) rfl ?_
          refine hA_icmp (zs_icmple em24_86 (t := 141) (by decide)) (fun (c86 : at1.toInt ≤ bs.toInt) => ?_) (fun (c86 : ¬ at1.toInt ≤ bs.toInt) => ?_)
          · refine hA_aload (zs_aload_n em24_141) rfl ?_
            refine hA_getf3 (kd := 2004) (zs_getf (T := TX3) (M := 12) (ci := 3) (j := 9) em24_142 rfl inX3 (by decide) wd_467 ((congrFun xo_4 21).trans rfl)) ⟨_, by rw [hk_r0]; rfl, rfl⟩ (fun r142 hk_r142 => ?_)
            refine hA_iload (zs_iload em24_145) rfl ?_
            refine hA_iload (zs_iload em24_147) rfl ?_
            refine hA_iastH (kd := 2004) (len := 280) (zs_iast zInj0 em24_149) ⟨hk_r142, rfl, rfl⟩ (by omega) (by show _ < ((280 : Nat) : Int); omega) (eal rfl (by show (0 : Int) ≤ _; omega) (by show _ ≤ (4 : Int); omega)) ?_
            refine hA_aload (zs_aload_n em24_150) rfl ?_
            refine hA_getf3 (kd := 2005) (zs_getf (T := TX3) (M := 12) (ci := 3) (j := 10) em24_151 rfl inX3 (by decide) wd_468 ((congrFun xo_4 24).trans rfl)) ⟨_, by rw [hk_r0]; rfl, rfl⟩ (fun r151 hk_r151 => ?_)
            refine hA_iload (zs_iload em24_154) rfl ?_
            refine hA_iload (zs_iload em24_156) rfl ?_
            refine hA_iastH (kd := 2005) (len := 280) (zs_iast zInj0 em24_158) ⟨hk_r151, rfl, rfl⟩ (by omega) (by show _ < ((280 : Nat) : Int); omega) (eno rfl) ?_
            refine hA_iinc (c := 1) (zs_iinc (k := 1) em24_159 (by decide +kernel)) (by decide +kernel) rfl ⟨Nat.le_of_ble_eq_true rfl, rfl⟩ (by omega) (by omega) (fun z159 hz159 => ?_)
            show zAt _ _ _ _ _ _ _ _ _ _ [some (.inr (.inl (some r0))), some (.inr (.inl (some r1))), some (.inl x2), some (.inl x3), some (.inl bs), some (.inl z159), some (.inl ho), some (.inl rk), some (.inl at1)] _ _ _
            refine hA_iinc (c := 1) (zs_iinc (k := 1) em24_162 (by decide +kernel)) (by decide +kernel) rfl ⟨Nat.le_of_ble_eq_true rfl, rfl⟩ (by omega) (by omega) (fun z162 hz162 => ?_)
            show zAt _ _ _ _ _ _ _ _ _ _ [some (.inr (.inl (some r0))), some (.inr (.inl (some r1))), some (.inl x2), some (.inl x3), some (.inl bs), some (.inl z159), some (.inl z162), some (.inl rk), some (.inl at1)] _ _ _
            refine hA_goto (zs_goto em24_165 (t := 16) (by decide)) ?_
            refine hA_fg (L' := [some (.inr (.inl (some r0))), some (.inr (.inl (some r1))), some (.inl x2), some (.inl x3), some (.inl bs), some (.inl z159), some (.inl z162), none, none]) (by repeat (first | exact trivial | refine And.intro rfl ?_)) ?_
            exact ih _ (by omega) bs hb0 hb1 z159 z162 (by omega) (by omega) (by omega) rfl
          · refine hA_aload (zs_aload_n em24_89) rfl ?_
            refine hA_getf3 (kd := 2005) (zs_getf (T := TX3) (M := 12) (ci := 3) (j := 10) em24_90 rfl inX3 (by decide) wd_468 ((congrFun xo_4 24).trans rfl)) ⟨_, by rw [hk_r0]; rfl, rfl⟩ (fun r90 hk_r90 => ?_)
            refine hA_iload (zs_iload em24_93) rfl ?_
            refine hA_const (k := 1) (zs_iconst (v := 1) em24_95 (by decide +kernel)) (by decide +kernel) (fun z95 hz95 => ?_)
            refine hA_sub (zs_isub em24_96) (by omega) (by omega) (fun z96 hz96 => ?_)
            refine hA_ialdH (kd := 2005) (len := 280) (zs_iald em24_97) ⟨hk_r90, rfl, rfl⟩ (by omega) (by show _ < ((280 : Nat) : Int); omega) (fun z97 hz97 => ?_)
            refine hA_iload (zs_iload em24_98) rfl ?_
            refine hA_icmp (zs_icmpge em24_100 (t := 141) (by decide)) (fun (c100 : rk.toInt ≤ z97.toInt) => ?_) (fun (c100 : ¬ rk.toInt ≤ z97.toInt) => ?_)
            · refine hA_aload (zs_aload_n em24_141) rfl ?_
              refine hA_getf3 (kd := 2004) (zs_getf (T := TX3) (M := 12) (ci := 3) (j := 9) em24_142 rfl inX3 (by decide) wd_467 ((congrFun xo_4 21).trans rfl)) ⟨_, by rw [hk_r0]; rfl, rfl⟩ (fun r142 hk_r142 => ?_)
              refine hA_iload (zs_iload em24_145) rfl ?_
              refine hA_iload (zs_iload em24_147) rfl ?_
              refine hA_iastH (kd := 2004) (len := 280) (zs_iast zInj0 em24_149) ⟨hk_r142, rfl, rfl⟩ (by omega) (by show _ < ((280 : Nat) : Int); omega) (eal rfl (by show (0 : Int) ≤ _; omega) (by show _ ≤ (4 : Int); omega)) ?_
              refine hA_aload (zs_aload_n em24_150) rfl ?_
              refine hA_getf3 (kd := 2005) (zs_getf (T := TX3) (M := 12) (ci := 3) (j := 10) em24_151 rfl inX3 (by decide) wd_468 ((congrFun xo_4 24).trans rfl)) ⟨_, by rw [hk_r0]; rfl, rfl⟩ (fun r151 hk_r151 => ?_)
              refine hA_iload (zs_iload em24_154) rfl ?_
              refine hA_iload (zs_iload em24_156) rfl ?_
              refine hA_iastH (kd := 2005) (len := 280) (zs_iast zInj0 em24_158) ⟨hk_r151, rfl, rfl⟩ (by omega) (by show _ < ((280 : Nat) : Int); omega) (eno rfl) ?_
              refine hA_iinc (c := 1) (zs_iinc (k := 1) em24_159 (by decide +kernel)) (by decide +kernel) rfl ⟨Nat.le_of_ble_eq_true rfl, rfl⟩ (by omega) (by omega) (fun z159' hz159' => ?_)
              show zAt _ _ _ _ _ _ _ _ _ _ [some (.inr (.inl (some r0))), some (.inr (.inl (some r1))), some (.inl x2), some (.inl x3), some (.inl bs), some (.inl z159'), some (.inl ho), some (.inl rk), some (.inl at1)] _ _ _
              refine hA_iinc (c := 1) (zs_iinc (k := 1) em24_162 (by decide +kernel)) (by decide +kernel) rfl ⟨Nat.le_of_ble_eq_true rfl, rfl⟩ (by omega) (by omega) (fun z162' hz162' => ?_)
              show zAt _ _ _ _ _ _ _ _ _ _ [some (.inr (.inl (some r0))), some (.inr (.inl (some r1))), some (.inl x2), some (.inl x3), some (.inl bs), some (.inl z159'), some (.inl z162'), some (.inl rk), some (.inl at1)] _ _ _
              refine hA_goto (zs_goto em24_165 (t := 16) (by decide)) ?_
              refine hA_fg (L' := [some (.inr (.inl (some r0))), some (.inr (.inl (some r1))), some (.inl x2), some (.inl x3), some (.inl bs), some (.inl z159'), some (.inl z162'), none, none]) (by repeat (first | exact trivial | refine And.intro rfl ?_)) ?_
              exact ih _ (by omega) bs hb0 hb1 z159' z162' (by omega) (by omega) (by omega) rfl
            · refine hA_aload (zs_aload_n em24_103) rfl ?_
              refine hA_getf3 (kd := 2004) (zs_getf (T := TX3) (M := 12) (ci := 3) (j := 9) em24_104 rfl inX3 (by decide) wd_467 ((congrFun xo_4 21).trans rfl)) ⟨_, by rw [hk_r0]; rfl, rfl⟩ (fun r104 hk_r104 => ?_)
              refine hA_iload (zs_iload em24_107) rfl ?_
              refine hA_aload (zs_aload_n em24_109) rfl ?_
              refine hA_getf3 (kd := 2004) (zs_getf (T := TX3) (M := 12) (ci := 3) (j := 9) em24_110 rfl inX3 (by decide) wd_467 ((congrFun xo_4 21).trans rfl)) ⟨_, by rw [hk_r0]; rfl, rfl⟩ (fun r110 hk_r110 => ?_)
              refine hA_iload (zs_iload em24_113) rfl ?_
              refine hA_const (k := 1) (zs_iconst (v := 1) em24_115 (by decide +kernel)) (by decide +kernel) (fun z115 hz115 => ?_)
              refine hA_sub (zs_isub em24_116) (by omega) (by omega) (fun z116 hz116 => ?_)
              refine hA_ialdH (kd := 2004) (len := 280) (zs_iald em24_117) ⟨hk_r110, rfl, rfl⟩ (by omega) (by show _ < ((280 : Nat) : Int); omega) (fun z117 hz117 => ?_)
              have hbz117 : (0 : Int) ≤ z117.toInt ∧ z117.toInt ≤ 4 := eall rfl hz117
              refine hA_iastH (kd := 2004) (len := 280) (zs_iast zInj0 em24_118) ⟨hk_r104, rfl, rfl⟩ (by omega) (by show _ < ((280 : Nat) : Int); omega) (eal rfl (by show (0 : Int) ≤ _; omega) (by show _ ≤ (4 : Int); omega)) ?_
              refine hA_aload (zs_aload_n em24_119) rfl ?_
              refine hA_getf3 (kd := 2005) (zs_getf (T := TX3) (M := 12) (ci := 3) (j := 10) em24_120 rfl inX3 (by decide) wd_468 ((congrFun xo_4 24).trans rfl)) ⟨_, by rw [hk_r0]; rfl, rfl⟩ (fun r120 hk_r120 => ?_)
              refine hA_iload (zs_iload em24_123) rfl ?_
              refine hA_aload (zs_aload_n em24_125) rfl ?_
              refine hA_getf3 (kd := 2005) (zs_getf (T := TX3) (M := 12) (ci := 3) (j := 10) em24_126 rfl inX3 (by decide) wd_468 ((congrFun xo_4 24).trans rfl)) ⟨_, by rw [hk_r0]; rfl, rfl⟩ (fun r126 hk_r126 => ?_)
              refine hA_iload (zs_iload em24_129) rfl ?_
              refine hA_const (k := 1) (zs_iconst (v := 1) em24_131 (by decide +kernel)) (by decide +kernel) (fun z131 hz131 => ?_)
              refine hA_sub (zs_isub em24_132) (by omega) (by omega) (fun z132 hz132 => ?_)
              refine hA_ialdH (kd := 2005) (len := 280) (zs_iald em24_133) ⟨hk_r126, rfl, rfl⟩ (by omega) (by show _ < ((280 : Nat) : Int); omega) (fun z133 hz133 => ?_)
              refine hA_iastH (kd := 2005) (len := 280) (zs_iast zInj0 em24_134) ⟨hk_r120, rfl, rfl⟩ (by omega) (by show _ < ((280 : Nat) : Int); omega) (eno rfl) ?_
              refine hA_iinc (c := (-1)) (zs_iinc (k := (-1)) em24_135 (by decide +kernel)) (by decide +kernel) rfl ⟨Nat.le_of_ble_eq_true rfl, rfl⟩ (by omega) (by omega) (fun z135 hz135 => ?_)
              show zAt _ _ _ _ _ _ _ _ _ _ [some (.inr (.inl (some r0))), some (.inr (.inl (some r1))), some (.inl x2), some (.inl x3), some (.inl bs), some (.inl cn), some (.inl ho), some (.inl rk), some (.inl z135)] _ _ _
              refine hA_goto (zs_goto em24_138 (t := 82) (by decide)) ?_
              exact ih2 _ (by omega) rk z135 (by omega) (by omega) hho4 rfl
      refine hA_iload (zs_iload em24_16) rfl ?_
      refine hA_aload (zs_aload_n em24_18) rfl ?_
      refine hA_getf2 (r := 2) (zs_getf (T := TX3) (M := 12) (ci := 3) (j := 0) em24_19 rfl inX3 (by decide) wd_451 ((congrFun xo_4 30).trans rfl)) ⟨_, by rw [hk_r0]; rfl, rfl⟩ ?_
      refine hA_getf1 (q := (0, 5)) (zs_getf (T := TX6) (M := 15) (ci := 6) (j := 0) em24_22 rfl inX6 (by decide) wd_164 ((congrFun xo_4 73).trans rfl)) ⟨_, rfl, rfl⟩ rfl (fun z22 (hz22 : (0 : Int) ≤ z22.toInt) (hz22b : z22.toInt ≤ 5) => ?_)
      refine hA_icmp (zs_icmpge em24_25 (t := 168) (by decide)) (fun (c25 : z22.toInt ≤ ho.toInt) => ?_) (fun (c25 : ¬ z22.toInt ≤ ho.toInt) => ?_)
      · refine hA_aload (zs_aload_n em24_168) rfl ?_
        refine hA_getf3 (kd := 2006) (zs_getf (T := TX3) (M := 12) (ci := 3) (j := 11) em24_169 rfl inX3 (by decide) wd_469 ((congrFun xo_4 27).trans rfl)) ⟨_, by rw [hk_r0]; rfl, rfl⟩ (fun r169 hk_r169 => ?_)
        refine hA_iload (zs_iload_n em24_172) rfl ?_
        refine hA_const (k := 8) (zs_bipush (v := 8) em24_173 (by decide +kernel)) (by decide +kernel) (fun z173 hz173 => ?_)
        refine hA_mulr (c := 8) (zs_imul em24_175) hz173 (by omega) (by omega) (fun z175 hz175 => ?_)
        refine hA_iload (zs_iload_n em24_176) rfl ?_
        refine hA_add (zs_iadd em24_177) (by omega) (by omega) (fun z177 hz177 => ?_)
        refine hA_iload (zs_iload em24_178) rfl ?_
        refine hA_iastH (kd := 2006) (len := 56) (zs_iast zInj0 em24_180) ⟨hk_r169, rfl, rfl⟩ (by omega) (by show _ < ((56 : Nat) : Int); omega) (eal rfl (by show (0 : Int) ≤ _; omega) (by show _ ≤ (5 : Int); omega)) ?_
        refine hA_return ⟨rfl, em24_181⟩ ⟨Nat.le_refl _, Nat.le_refl _⟩ ?_
        exact ⟨⟨_, List.mem_cons_self, rfl, hCh_nil, (fun id hl hn => rfl), (fun _ h => absurd h List.not_mem_nil)⟩, (fun _ => hInv), (fun _ id hid => rfl)⟩
      · refine hA_aload (zs_aload_n em24_28) rfl ?_
        refine hA_getf3 (kd := 2001) (zs_getf (T := TX3) (M := 12) (ci := 3) (j := 2) em24_29 rfl inX3 (by decide) wd_453 ((congrFun xo_4 9).trans rfl)) ⟨_, by rw [hk_r0]; rfl, rfl⟩ (fun r29 hk_r29 => ?_)
        refine hA_iload (zs_iload em24_32) rfl ?_
        refine hA_const (k := 8) (zs_bipush (v := 8) em24_34 (by decide +kernel)) (by decide +kernel) (fun z34 hz34 => ?_)
        refine hA_mulr (c := 8) (zs_imul em24_36) hz34 (by omega) (by omega) (fun z36 hz36 => ?_)
        refine hA_iload (zs_iload_n em24_37) rfl ?_
        refine hA_add (zs_iadd em24_38) (by omega) (by omega) (fun z38 hz38 => ?_)
        refine hA_ialdH (kd := 2001) (len := 40) (zs_iald em24_39) ⟨hk_r29, rfl, rfl⟩ (by omega) (by show _ < ((40 : Nat) : Int); omega) (fun z39 hz39 => ?_)
        refine hA_if (zs_ifeq em24_40 (t := 162) (by decide)) (fun (c40 : z39.toInt = 0) => ?_) (fun (c40 : ¬ z39.toInt = 0) => ?_)
        · refine hA_iinc (c := 1) (zs_iinc (k := 1) em24_162 (by decide +kernel)) (by decide +kernel) rfl ⟨Nat.le_of_ble_eq_true rfl, rfl⟩ (by omega) (by omega) (fun z162 hz162 => ?_)
          show zAt _ _ _ _ _ _ _ _ _ _ [some (.inr (.inl (some r0))), some (.inr (.inl (some r1))), some (.inl x2), some (.inl x3), some (.inl bs), some (.inl cn), some (.inl z162), none, none] _ _ _
          refine hA_goto (zs_goto em24_165 (t := 16) (by decide)) ?_
          exact ih _ (by omega) bs hb0 hb1 cn z162 (by omega) (by omega) (by omega) rfl
        · refine hA_aload (zs_aload_n em24_43) rfl ?_
          refine hA_getf2 (r := 48) (zs_getf (T := TX3) (M := 12) (ci := 3) (j := 1) em24_44 rfl inX3 (by decide) wd_452 ((congrFun xo_4 34).trans rfl)) ⟨_, by rw [hk_r0]; rfl, rfl⟩ ?_
          refine hA_aload (zs_aload_n em24_47) rfl ?_
          refine hA_iload (zs_iload em24_48) rfl ?_
          refine hA_iload (zs_iload_n em24_50) rfl ?_
          refine hA_iload (zs_iload_n em24_51) rfl ?_
          refine hA_callV (as := [.inr (.inl (some r1)), .inl ho, .inl x3, .inl x2]) (rest := []) (B' := (0, 0)) (zs_invV (T := TX1) em24_52 zl_2 rfl wd_953 wd_920 wd_921 ((congrFun xo_4 76).trans rfl) xm_2) rfl ⟨_, rfl⟩ (Nat.le_of_ble_eq_true rfl) rfl ⟨Nat.zero_le _, Nat.zero_le _⟩ (zpre_of zh_2 ⟨(by show 7 ≤ d; omega), ⟨_, _, rfl, rfl, ⟨_, _, rfl, ⟨_, rfl, hk_r1⟩, ⟨_, _, rfl, ⟨_, rfl, show (0 : Int) ≤ ho.toInt by omega, show ho.toInt ≤ (4 : Int) by omega⟩, ⟨_, _, rfl, ⟨_, rfl, show (0 : Int) ≤ x3.toInt by omega, show x3.toInt ≤ (7 : Int) by omega⟩, ⟨_, _, rfl, ⟨_, rfl, show (0 : Int) ≤ x2.toInt by omega, show x2.toInt ≤ (6 : Int) by omega⟩, rfl⟩⟩⟩⟩⟩, (hF_cons (lo := 0) (hi := 408) ⟨by omega, by omega⟩ hF_nil), fun _ => hInv⟩) (fun r52 I52 hp52 => ?_)
          replace hp52 := zpost_of zh_2 hp52
          rcases zq_2 hp52 with ⟨z52, rfl, hz52l, hz52h, rfl, hInv52⟩ | ⟨z52', rfl, hz52'l, hz52'h, rfl, hInv52⟩
          · refine hA_if (zs_ifne em24_55 (t := 61) (by decide)) (fun (c55 : ¬ z52.toInt = 0) => ?_) (fun (c55 : ¬ ¬ z52.toInt = 0) => ?_)
            · exfalso
              omega
            · refine hA_goto (zs_goto em24_58 (t := 162) (by decide)) ?_
              refine hA_iinc (c := 1) (zs_iinc (k := 1) em24_162 (by decide +kernel)) (by decide +kernel) rfl ⟨Nat.le_of_ble_eq_true rfl, rfl⟩ (by omega) (by omega) (fun z162' hz162' => ?_)
              show zAt _ _ _ _ _ _ _ _ _ _ [some (.inr (.inl (some r0))), some (.inr (.inl (some r1))), some (.inl x2), some (.inl x3), some (.inl bs), some (.inl cn), some (.inl z162'), none, none] _ _ _
              refine hA_goto (zs_goto em24_165 (t := 16) (by decide)) ?_
              exact ih _ (by omega) bs hb0 hb1 cn z162' (by omega) (by omega) (by omega) rfl
          · refine hA_if (zs_ifne em24_55 (t := 61) (by decide)) (fun (c55' : ¬ z52'.toInt = 0) => ?_) (fun (c55' : ¬ ¬ z52'.toInt = 0) => ?_)
            · refine hA_aload (zs_aload_n em24_61) rfl ?_
              refine hA_getf2 (r := 48) (zs_getf (T := TX3) (M := 12) (ci := 3) (j := 1) em24_62 rfl inX3 (by decide) wd_452 ((congrFun xo_4 34).trans rfl)) ⟨_, by rw [hk_r0]; rfl, rfl⟩ ?_
              refine hA_aload (zs_aload_n em24_65) rfl ?_
              refine hA_iload (zs_iload em24_66) rfl ?_
              refine hA_iload (zs_iload_n em24_68) rfl ?_
              refine hA_iload (zs_iload_n em24_69) rfl ?_
              refine hA_callV (as := [.inr (.inl (some r1)), .inl ho, .inl x3, .inl x2]) (rest := []) (B' := (0, 0)) (zs_invV (T := TX1) em24_70 zl_7 rfl wd_954 wd_924 wd_925 ((congrFun xo_4 80).trans rfl) xm_7) rfl ⟨_, rfl⟩ (Nat.le_of_ble_eq_true rfl) rfl ⟨Nat.zero_le _, Nat.zero_le _⟩ (zpre_of zh_7 ⟨(by show 7 ≤ d; omega), ⟨_, _, rfl, rfl, ⟨_, _, rfl, ⟨_, rfl, hk_r1⟩, ⟨_, _, rfl, ⟨_, rfl, show (0 : Int) ≤ ho.toInt by omega, show ho.toInt ≤ (4 : Int) by omega⟩, ⟨_, _, rfl, ⟨_, rfl, show (0 : Int) ≤ x3.toInt by omega, show x3.toInt ≤ (7 : Int) by omega⟩, ⟨_, _, rfl, ⟨_, rfl, show (0 : Int) ≤ x2.toInt by omega, show x2.toInt ≤ (6 : Int) by omega⟩, rfl⟩⟩⟩⟩⟩, (hF_cons (lo := 0) (hi := 408) ⟨by omega, by omega⟩ hF_nil), fun _ => hInv⟩) (fun r70 I70 hp70 => ?_)
              replace hp70 := zpost_of zh_7 hp70
              obtain ⟨z70, rfl, hz70l, hz70h, rfl, hInv70⟩ := zq_7 hp70
              refine hA_istore (L' := [some (.inr (.inl (some r0))), some (.inr (.inl (some r1))), some (.inl x2), some (.inl x3), some (.inl bs), some (.inl cn), some (.inl ho), some (.inl z70), none]) (zs_istore em24_73) ⟨Nat.le_of_ble_eq_true rfl, rfl⟩ rfl ?_
              refine hA_iload (zs_iload em24_75) rfl ?_
              refine hA_iload (zs_iload em24_77) rfl ?_
              refine hA_add (zs_iadd em24_79) (by omega) (by omega) (fun z79 hz79 => ?_)
              refine hA_istore (L' := [some (.inr (.inl (some r0))), some (.inr (.inl (some r1))), some (.inl x2), some (.inl x3), some (.inl bs), some (.inl cn), some (.inl ho), some (.inl z70), some (.inl z79)]) (zs_istore em24_80) ⟨Nat.le_of_ble_eq_true rfl, rfl⟩ rfl ?_
              exact loop2 _ z70 z79 (by omega) (by omega) (by omega) rfl
            · exfalso
              omega
  refine hmet (L := [some (.inr (.inl (some r0))), some (.inr (.inl (some r1))), some (.inl x2), some (.inl x3), none, none, none, none, none]) (by decide) (Nat.le_of_ble_eq_true rfl) hc rfl ?_
  refine hA_iload (zs_iload_n em24_0) rfl ?_
  refine hA_const (k := 8) (zs_bipush (v := 8) em24_1 (by decide +kernel)) (by decide +kernel) (fun z1 hz1 => ?_)
  refine hA_mulr (c := 8) (zs_imul em24_3) hz1 (by omega) (by omega) (fun z3 hz3 => ?_)
  refine hA_iload (zs_iload_n em24_4) rfl ?_
  refine hA_add (zs_iadd em24_5) (by omega) (by omega) (fun z5 hz5 => ?_)
  refine hA_const (k := 5) (zs_iconst (v := 5) em24_6 (by decide +kernel)) (by decide +kernel) (fun z6 hz6 => ?_)
  refine hA_mulr (c := 5) (zs_imul em24_7) hz6 (by omega) (by omega) (fun z7 hz7 => ?_)
  refine hA_istore (L' := [some (.inr (.inl (some r0))), some (.inr (.inl (some r1))), some (.inl x2), some (.inl x3), some (.inl z7), none, none, none, none]) (zs_istore em24_8) ⟨Nat.le_of_ble_eq_true rfl, rfl⟩ rfl ?_
  refine hA_const (k := 0) (zs_iconst (v := 0) em24_10 (by decide +kernel)) (by decide +kernel) (fun z10 hz10 => ?_)
  refine hA_istore (L' := [some (.inr (.inl (some r0))), some (.inr (.inl (some r1))), some (.inl x2), some (.inl x3), some (.inl z7), some (.inl z10), none, none, none]) (zs_istore em24_11) ⟨Nat.le_of_ble_eq_true rfl, rfl⟩ rfl ?_
  refine hA_const (k := 0) (zs_iconst (v := 0) em24_13 (by decide +kernel)) (by decide +kernel) (fun z13 hz13 => ?_)
  refine hA_istore (L' := [some (.inr (.inl (some r0))), some (.inr (.inl (some r1))), some (.inl x2), some (.inl x3), some (.inl z7), some (.inl z10), some (.inl z13), none, none]) (zs_istore em24_14) ⟨Nat.le_of_ble_eq_true rfl, rfl⟩ rfl ?_
  exact loop _ z7 (by omega) (by omega) z10 z13 (by omega) (by omega) (by omega) rfl
theorem em44_0 : decode prog_8_method_6_code 0 = .ok (.aload_n 0, 1) := by decide +kernel
theorem em44_1 : decode prog_8_method_6_code 1 = .ok (.aload_n 1, 1) := by decide +kernel
theorem em44_2 : decode prog_8_method_6_code 2 = .ok (.getfield 44, 3) := by decide +kernel
theorem em44_5 : decode prog_8_method_6_code 5 = .ok (.putfield 44, 3) := by decide +kernel
theorem em44_8 : decode prog_8_method_6_code 8 = .ok (.aload_n 0, 1) := by decide +kernel
theorem em44_9 : decode prog_8_method_6_code 9 = .ok (.aload_n 1, 1) := by decide +kernel
theorem em44_10 : decode prog_8_method_6_code 10 = .ok (.getfield 48, 3) := by decide +kernel
theorem em44_13 : decode prog_8_method_6_code 13 = .ok (.putfield 48, 3) := by decide +kernel
theorem em44_16 : decode prog_8_method_6_code 16 = .ok (.aload_n 0, 1) := by decide +kernel
theorem em44_17 : decode prog_8_method_6_code 17 = .ok (.aload_n 1, 1) := by decide +kernel
theorem em44_18 : decode prog_8_method_6_code 18 = .ok (.getfield 51, 3) := by decide +kernel
theorem em44_21 : decode prog_8_method_6_code 21 = .ok (.putfield 51, 3) := by decide +kernel
theorem em44_24 : decode prog_8_method_6_code 24 = .ok (.aload_n 0, 1) := by decide +kernel
theorem em44_25 : decode prog_8_method_6_code 25 = .ok (.aload_n 1, 1) := by decide +kernel
theorem em44_26 : decode prog_8_method_6_code 26 = .ok (.getfield 54, 3) := by decide +kernel
theorem em44_29 : decode prog_8_method_6_code 29 = .ok (.putfield 54, 3) := by decide +kernel
theorem em44_32 : decode prog_8_method_6_code 32 = .ok (.aload_n 0, 1) := by decide +kernel
theorem em44_33 : decode prog_8_method_6_code 33 = .ok (.aload_n 1, 1) := by decide +kernel
theorem em44_34 : decode prog_8_method_6_code 34 = .ok (.getfield 57, 3) := by decide +kernel
theorem em44_37 : decode prog_8_method_6_code 37 = .ok (.putfield 57, 3) := by decide +kernel
theorem em44_40 : decode prog_8_method_6_code 40 = .ok (.aload_n 0, 1) := by decide +kernel
theorem em44_41 : decode prog_8_method_6_code 41 = .ok (.aload_n 1, 1) := by decide +kernel
theorem em44_42 : decode prog_8_method_6_code 42 = .ok (.getfield 66, 3) := by decide +kernel
theorem em44_45 : decode prog_8_method_6_code 45 = .ok (.putfield 66, 3) := by decide +kernel
theorem em44_48 : decode prog_8_method_6_code 48 = .ok (.aload_n 1, 1) := by decide +kernel
theorem em44_49 : decode prog_8_method_6_code 49 = .ok (.getfield 13, 3) := by decide +kernel
theorem em44_52 : decode prog_8_method_6_code 52 = .ok (.iconst 0, 1) := by decide +kernel
theorem em44_53 : decode prog_8_method_6_code 53 = .ok (.aload_n 0, 1) := by decide +kernel
theorem em44_54 : decode prog_8_method_6_code 54 = .ok (.getfield 13, 3) := by decide +kernel
theorem em44_57 : decode prog_8_method_6_code 57 = .ok (.iconst 0, 1) := by decide +kernel
theorem em44_58 : decode prog_8_method_6_code 58 = .ok (.bipush 40, 2) := by decide +kernel
theorem em44_60 : decode prog_8_method_6_code 60 = .ok (.invokestatic 79, 3) := by decide +kernel
theorem em44_63 : decode prog_8_method_6_code 63 = .ok (.aload_n 1, 1) := by decide +kernel
theorem em44_64 : decode prog_8_method_6_code 64 = .ok (.getfield 17, 3) := by decide +kernel
theorem em44_67 : decode prog_8_method_6_code 67 = .ok (.iconst 0, 1) := by decide +kernel
theorem em44_68 : decode prog_8_method_6_code 68 = .ok (.aload_n 0, 1) := by decide +kernel
theorem em44_69 : decode prog_8_method_6_code 69 = .ok (.getfield 17, 3) := by decide +kernel
theorem em44_72 : decode prog_8_method_6_code 72 = .ok (.iconst 0, 1) := by decide +kernel
theorem em44_73 : decode prog_8_method_6_code 73 = .ok (.bipush 7, 2) := by decide +kernel
theorem em44_75 : decode prog_8_method_6_code 75 = .ok (.invokestatic 79, 3) := by decide +kernel
theorem em44_78 : decode prog_8_method_6_code 78 = .ok (.aload_n 1, 1) := by decide +kernel
theorem em44_79 : decode prog_8_method_6_code 79 = .ok (.getfield 20, 3) := by decide +kernel
theorem em44_82 : decode prog_8_method_6_code 82 = .ok (.iconst 0, 1) := by decide +kernel
theorem em44_83 : decode prog_8_method_6_code 83 = .ok (.aload_n 0, 1) := by decide +kernel
theorem em44_84 : decode prog_8_method_6_code 84 = .ok (.getfield 20, 3) := by decide +kernel
theorem em44_87 : decode prog_8_method_6_code 87 = .ok (.iconst 0, 1) := by decide +kernel
theorem em44_88 : decode prog_8_method_6_code 88 = .ok (.bipush 7, 2) := by decide +kernel
theorem em44_90 : decode prog_8_method_6_code 90 = .ok (.invokestatic 79, 3) := by decide +kernel
theorem em44_93 : decode prog_8_method_6_code 93 = .ok (.aload_n 1, 1) := by decide +kernel
theorem em44_94 : decode prog_8_method_6_code 94 = .ok (.getfield 23, 3) := by decide +kernel
theorem em44_97 : decode prog_8_method_6_code 97 = .ok (.iconst 0, 1) := by decide +kernel
theorem em44_98 : decode prog_8_method_6_code 98 = .ok (.aload_n 0, 1) := by decide +kernel
theorem em44_99 : decode prog_8_method_6_code 99 = .ok (.getfield 23, 3) := by decide +kernel
theorem em44_102 : decode prog_8_method_6_code 102 = .ok (.iconst 0, 1) := by decide +kernel
theorem em44_103 : decode prog_8_method_6_code 103 = .ok (.bipush 7, 2) := by decide +kernel
theorem em44_105 : decode prog_8_method_6_code 105 = .ok (.invokestatic 79, 3) := by decide +kernel
theorem em44_108 : decode prog_8_method_6_code 108 = .ok (.aload_n 1, 1) := by decide +kernel
theorem em44_109 : decode prog_8_method_6_code 109 = .ok (.getfield 26, 3) := by decide +kernel
theorem em44_112 : decode prog_8_method_6_code 112 = .ok (.iconst 0, 1) := by decide +kernel
theorem em44_113 : decode prog_8_method_6_code 113 = .ok (.aload_n 0, 1) := by decide +kernel
theorem em44_114 : decode prog_8_method_6_code 114 = .ok (.getfield 26, 3) := by decide +kernel
theorem em44_117 : decode prog_8_method_6_code 117 = .ok (.iconst 0, 1) := by decide +kernel
theorem em44_118 : decode prog_8_method_6_code 118 = .ok (.bipush 56, 2) := by decide +kernel
theorem em44_120 : decode prog_8_method_6_code 120 = .ok (.invokestatic 79, 3) := by decide +kernel
theorem em44_123 : decode prog_8_method_6_code 123 = .ok (.aload_n 1, 1) := by decide +kernel
theorem em44_124 : decode prog_8_method_6_code 124 = .ok (.getfield 29, 3) := by decide +kernel
theorem em44_127 : decode prog_8_method_6_code 127 = .ok (.iconst 0, 1) := by decide +kernel
theorem em44_128 : decode prog_8_method_6_code 128 = .ok (.aload_n 0, 1) := by decide +kernel
theorem em44_129 : decode prog_8_method_6_code 129 = .ok (.getfield 29, 3) := by decide +kernel
theorem em44_132 : decode prog_8_method_6_code 132 = .ok (.iconst 0, 1) := by decide +kernel
theorem em44_133 : decode prog_8_method_6_code 133 = .ok (.bipush 56, 2) := by decide +kernel
theorem em44_135 : decode prog_8_method_6_code 135 = .ok (.invokestatic 79, 3) := by decide +kernel
theorem em44_138 : decode prog_8_method_6_code 138 = .ok (.aload_n 1, 1) := by decide +kernel
theorem em44_139 : decode prog_8_method_6_code 139 = .ok (.getfield 32, 3) := by decide +kernel
theorem em44_142 : decode prog_8_method_6_code 142 = .ok (.iconst 0, 1) := by decide +kernel
theorem em44_143 : decode prog_8_method_6_code 143 = .ok (.aload_n 0, 1) := by decide +kernel
theorem em44_144 : decode prog_8_method_6_code 144 = .ok (.getfield 32, 3) := by decide +kernel
theorem em44_147 : decode prog_8_method_6_code 147 = .ok (.iconst 0, 1) := by decide +kernel
theorem em44_148 : decode prog_8_method_6_code 148 = .ok (.iconst 4, 1) := by decide +kernel
theorem em44_149 : decode prog_8_method_6_code 149 = .ok (.invokestatic 79, 3) := by decide +kernel
theorem em44_152 : decode prog_8_method_6_code 152 = .ok (.aload_n 1, 1) := by decide +kernel
theorem em44_153 : decode prog_8_method_6_code 153 = .ok (.getfield 35, 3) := by decide +kernel
theorem em44_156 : decode prog_8_method_6_code 156 = .ok (.iconst 0, 1) := by decide +kernel
theorem em44_157 : decode prog_8_method_6_code 157 = .ok (.aload_n 0, 1) := by decide +kernel
theorem em44_158 : decode prog_8_method_6_code 158 = .ok (.getfield 35, 3) := by decide +kernel
theorem em44_161 : decode prog_8_method_6_code 161 = .ok (.iconst 0, 1) := by decide +kernel
theorem em44_162 : decode prog_8_method_6_code 162 = .ok (.sipush 408, 3) := by decide +kernel
theorem em44_165 : decode prog_8_method_6_code 165 = .ok (.invokestatic 79, 3) := by decide +kernel
theorem em44_168 : decode prog_8_method_6_code 168 = .ok (.aload_n 1, 1) := by decide +kernel
theorem em44_169 : decode prog_8_method_6_code 169 = .ok (.getfield 38, 3) := by decide +kernel
theorem em44_172 : decode prog_8_method_6_code 172 = .ok (.iconst 0, 1) := by decide +kernel
theorem em44_173 : decode prog_8_method_6_code 173 = .ok (.aload_n 0, 1) := by decide +kernel
theorem em44_174 : decode prog_8_method_6_code 174 = .ok (.getfield 38, 3) := by decide +kernel
theorem em44_177 : decode prog_8_method_6_code 177 = .ok (.iconst 0, 1) := by decide +kernel
theorem em44_178 : decode prog_8_method_6_code 178 = .ok (.sipush 408, 3) := by decide +kernel
theorem em44_181 : decode prog_8_method_6_code 181 = .ok (.invokestatic 79, 3) := by decide +kernel
theorem em44_184 : decode prog_8_method_6_code 184 = .ok (.return_, 1) := by decide +kernel
set_option maxRecDepth 10000 in
set_option maxHeartbeats 4000000 in
theorem hM_47 : zOKh 47 zc_47 := by
  intro d hc as I q h hq
  obtain ⟨hd, ⟨_, _, rfl, rfl, ⟨_, _, rfl, rfl, rfl⟩⟩, hF, hI⟩ := h
  have hd : 4 ≤ d + 1 := hd
  have hf4 : (0 : Int) ≤ zf I 4 ∧ zf I 4 ≤ (408 : Int) := hF _ List.mem_cons_self
  have hf5 : (0 : Int) ≤ zf I 5 ∧ zf I 5 ≤ (5 : Int) := hF _ (List.mem_cons_of_mem _ List.mem_cons_self)
  have hf6 : (0 : Int) ≤ zf I 6 ∧ zf I 6 ≤ (7 : Int) := hF _ (List.mem_cons_of_mem _ (List.mem_cons_of_mem _ List.mem_cons_self))
  have hInv : zInv I := hI rfl
  cases (show some _ = some q from hq)
  refine hmet (L := [some (.inr (.inl (some 2))), some (.inr (.inl (some 13)))]) (by decide) (Nat.le_of_ble_eq_true rfl) hc rfl ?_
  refine hA_aload (zs_aload_n em44_0) rfl ?_
  refine hA_aload (zs_aload_n em44_1) rfl ?_
  refine hA_getf0 (id := 5) (zs_getf (T := TX6) (M := 15) (ci := 6) (j := 0) em44_2 rfl inX6 (by decide) wd_162 ((congrFun xo_7 44).trans rfl)) ⟨_, rfl, rfl⟩ (fun z2 hz2 => ?_)
  refine hA_puti1 (q := (0, 5)) (zs_puti zInj0 (T := TX6) (M := 15) (ty := tyX6) (ci := 6) (j := 0) (kd := 0) em44_5 rfl inX6 tyX6_ok nmX6 (by decide) wd_162 (Or.inl ⟨rfl, rfl⟩) rfl ((congrFun xo_7 44).trans rfl)) ⟨_, rfl, rfl⟩ rfl (fun h => by cases h) (by show (0 : Int) ≤ _; omega) (by show _ ≤ (5 : Int); omega) ?_
  refine hA_aload (zs_aload_n em44_8) rfl ?_
  refine hA_aload (zs_aload_n em44_9) rfl ?_
  refine hA_getf0 (id := 6) (zs_getf (T := TX6) (M := 15) (ci := 6) (j := 1) em44_10 rfl inX6 (by decide) wd_169 ((congrFun xo_7 48).trans rfl)) ⟨_, rfl, rfl⟩ (fun z10 hz10 => ?_)
  refine hA_puti1 (q := (0, 7)) (zs_puti zInj0 (T := TX6) (M := 15) (ty := tyX6) (ci := 6) (j := 1) (kd := 0) em44_13 rfl inX6 tyX6_ok nmX6 (by decide) wd_169 (Or.inl ⟨rfl, rfl⟩) rfl ((congrFun xo_7 48).trans rfl)) ⟨_, rfl, rfl⟩ rfl (fun h => by cases h) (by show (0 : Int) ≤ _; omega) (by show _ ≤ (7 : Int); omega) ?_
  refine hA_aload (zs_aload_n em44_16) rfl ?_
  refine hA_aload (zs_aload_n em44_17) rfl ?_
  refine hA_getf1 (q := ((-2147483648), 2147483647)) (zs_getf (T := TX6) (M := 15) (ci := 6) (j := 4) em44_18 rfl inX6 (by decide) wd_175 ((congrFun xo_7 51).trans rfl)) ⟨_, rfl, rfl⟩ rfl (fun z18 (hz18 : ((-2147483648) : Int) ≤ z18.toInt) (hz18b : z18.toInt ≤ 2147483647) => ?_)
  refine hA_puti1 (q := ((-2147483648), 2147483647)) (zs_puti zInj0 (T := TX6) (M := 15) (ty := tyX6) (ci := 6) (j := 4) (kd := 0) em44_21 rfl inX6 tyX6_ok nmX6 (by decide) wd_175 (Or.inl ⟨rfl, rfl⟩) rfl ((congrFun xo_7 51).trans rfl)) ⟨_, rfl, rfl⟩ rfl (fun h => by cases h) (an_lo _) (an_hi _) ?_
  refine hA_aload (zs_aload_n em44_24) rfl ?_
  refine hA_aload (zs_aload_n em44_25) rfl ?_
  refine hA_getf1 (q := ((-2147483648), 2147483647)) (zs_getf (T := TX6) (M := 15) (ci := 6) (j := 2) em44_26 rfl inX6 (by decide) wd_178 ((congrFun xo_7 54).trans rfl)) ⟨_, rfl, rfl⟩ rfl (fun z26 (hz26 : ((-2147483648) : Int) ≤ z26.toInt) (hz26b : z26.toInt ≤ 2147483647) => ?_)
  refine hA_puti1 (q := ((-2147483648), 2147483647)) (zs_puti zInj0 (T := TX6) (M := 15) (ty := tyX6) (ci := 6) (j := 2) (kd := 0) em44_29 rfl inX6 tyX6_ok nmX6 (by decide) wd_178 (Or.inl ⟨rfl, rfl⟩) rfl ((congrFun xo_7 54).trans rfl)) ⟨_, rfl, rfl⟩ rfl (fun h => by cases h) (an_lo _) (an_hi _) ?_
  refine hA_aload (zs_aload_n em44_32) rfl ?_
  refine hA_aload (zs_aload_n em44_33) rfl ?_
  refine hA_getf1 (q := ((-2147483648), 2147483647)) (zs_getf (T := TX6) (M := 15) (ci := 6) (j := 3) em44_34 rfl inX6 (by decide) wd_181 ((congrFun xo_7 57).trans rfl)) ⟨_, rfl, rfl⟩ rfl (fun z34 (hz34 : ((-2147483648) : Int) ≤ z34.toInt) (hz34b : z34.toInt ≤ 2147483647) => ?_)
  refine hA_puti1 (q := ((-2147483648), 2147483647)) (zs_puti zInj0 (T := TX6) (M := 15) (ty := tyX6) (ci := 6) (j := 3) (kd := 0) em44_37 rfl inX6 tyX6_ok nmX6 (by decide) wd_181 (Or.inl ⟨rfl, rfl⟩) rfl ((congrFun xo_7 57).trans rfl)) ⟨_, rfl, rfl⟩ rfl (fun h => by cases h) (an_lo _) (an_hi _) ?_
  refine hA_aload (zs_aload_n em44_40) rfl ?_
  refine hA_aload (zs_aload_n em44_41) rfl ?_
  refine hA_getf0 (id := 4) (zs_getf (T := TX6) (M := 15) (ci := 6) (j := 14) em44_42 rfl inX6 (by decide) wd_218 ((congrFun xo_7 66).trans rfl)) ⟨_, rfl, rfl⟩ (fun z42 hz42 => ?_)
  refine hA_puti1 (q := (0, 408)) (zs_puti zInj0 (T := TX6) (M := 15) (ty := tyX6) (ci := 6) (j := 14) (kd := 0) em44_45 rfl inX6 tyX6_ok nmX6 (by decide) wd_218 (Or.inl ⟨rfl, rfl⟩) rfl ((congrFun xo_7 66).trans rfl)) ⟨_, rfl, rfl⟩ rfl (fun h => by cases h) (by show (0 : Int) ≤ _; omega) (by show _ ≤ (408 : Int); omega) ?_
  refine hA_aload (zs_aload_n em44_48) rfl ?_
  refine hA_getf2 (r := 14) (zs_getf (T := TX6) (M := 15) (ci := 6) (j := 5) em44_49 rfl inX6 (by decide) wd_184 ((congrFun xo_7 13).trans rfl)) ⟨_, rfl, rfl⟩ ?_
  refine hA_const (k := 0) (zs_iconst (v := 0) em44_52 (by decide +kernel)) (by decide +kernel) (fun z52 hz52 => ?_)
  refine hA_aload (zs_aload_n em44_53) rfl ?_
  refine hA_getf2 (r := 3) (zs_getf (T := TX6) (M := 15) (ci := 6) (j := 5) em44_54 rfl inX6 (by decide) wd_184 ((congrFun xo_7 13).trans rfl)) ⟨_, rfl, rfl⟩ ?_
  refine hA_const (k := 0) (zs_iconst (v := 0) em44_57 (by decide +kernel)) (by decide +kernel) (fun z57 hz57 => ?_)
  refine hA_const (k := 40) (zs_bipush (v := 40) em44_58 (by decide +kernel)) (by decide +kernel) (fun z58 hz58 => ?_)
  refine hA_copyH (kd := 3) (kd0 := 14) (len := 40) (len0 := 40) (zs_copy zInj0 em44_60 wd_829 wd_831 wd_830 wd_131 (by decide +kernel) ((congrFun xo_7 79).trans rfl)) ⟨⟨rfl, rfl, rfl⟩, rfl, rfl, rfl, rfl, by decide, by decide⟩ (Nat.le_of_ble_eq_true rfl) (by omega) (by omega) (by show _ = ((40 : Nat) : Int); omega) ?_
  refine hA_aload (zs_aload_n em44_63) rfl ?_
  refine hA_getf2 (r := 15) (zs_getf (T := TX6) (M := 15) (ci := 6) (j := 6) em44_64 rfl inX6 (by decide) wd_187 ((congrFun xo_7 17).trans rfl)) ⟨_, rfl, rfl⟩ ?_
  refine hA_const (k := 0) (zs_iconst (v := 0) em44_67 (by decide +kernel)) (by decide +kernel) (fun z67 hz67 => ?_)
  refine hA_aload (zs_aload_n em44_68) rfl ?_
  refine hA_getf2 (r := 4) (zs_getf (T := TX6) (M := 15) (ci := 6) (j := 6) em44_69 rfl inX6 (by decide) wd_187 ((congrFun xo_7 17).trans rfl)) ⟨_, rfl, rfl⟩ ?_
  refine hA_const (k := 0) (zs_iconst (v := 0) em44_72 (by decide +kernel)) (by decide +kernel) (fun z72 hz72 => ?_)
  refine hA_const (k := 7) (zs_bipush (v := 7) em44_73 (by decide +kernel)) (by decide +kernel) (fun z73 hz73 => ?_)
  refine hA_copyH (kd := 4) (kd0 := 15) (len := 7) (len0 := 7) (zs_copy zInj0 em44_75 wd_829 wd_831 wd_830 wd_131 (by decide +kernel) ((congrFun xo_7 79).trans rfl)) ⟨⟨rfl, rfl, rfl⟩, rfl, rfl, rfl, rfl, by decide, by decide⟩ (Nat.le_of_ble_eq_true rfl) (by omega) (by omega) (by show _ = ((7 : Nat) : Int); omega) ?_
  refine hA_aload (zs_aload_n em44_78) rfl ?_
  refine hA_getf2 (r := 16) (zs_getf (T := TX6) (M := 15) (ci := 6) (j := 7) em44_79 rfl inX6 (by decide) wd_191 ((congrFun xo_7 20).trans rfl)) ⟨_, rfl, rfl⟩ ?_
  refine hA_const (k := 0) (zs_iconst (v := 0) em44_82 (by decide +kernel)) (by decide +kernel) (fun z82 hz82 => ?_)
  refine hA_aload (zs_aload_n em44_83) rfl ?_
  refine hA_getf2 (r := 5) (zs_getf (T := TX6) (M := 15) (ci := 6) (j := 7) em44_84 rfl inX6 (by decide) wd_191 ((congrFun xo_7 20).trans rfl)) ⟨_, rfl, rfl⟩ ?_
  refine hA_const (k := 0) (zs_iconst (v := 0) em44_87 (by decide +kernel)) (by decide +kernel) (fun z87 hz87 => ?_)
  refine hA_const (k := 7) (zs_bipush (v := 7) em44_88 (by decide +kernel)) (by decide +kernel) (fun z88 hz88 => ?_)
  refine hA_copyH (kd := 5) (kd0 := 16) (len := 7) (len0 := 7) (zs_copy zInj0 em44_90 wd_829 wd_831 wd_830 wd_131 (by decide +kernel) ((congrFun xo_7 79).trans rfl)) ⟨⟨rfl, rfl, rfl⟩, rfl, rfl, rfl, rfl, by decide, by decide⟩ (Nat.le_of_ble_eq_true rfl) (by omega) (by omega) (by show _ = ((7 : Nat) : Int); omega) ?_
  refine hA_aload (zs_aload_n em44_93) rfl ?_
  refine hA_getf2 (r := 17) (zs_getf (T := TX6) (M := 15) (ci := 6) (j := 8) em44_94 rfl inX6 (by decide) wd_195 ((congrFun xo_7 23).trans rfl)) ⟨_, rfl, rfl⟩ ?_
  refine hA_const (k := 0) (zs_iconst (v := 0) em44_97 (by decide +kernel)) (by decide +kernel) (fun z97 hz97 => ?_)
  refine hA_aload (zs_aload_n em44_98) rfl ?_
  refine hA_getf2 (r := 6) (zs_getf (T := TX6) (M := 15) (ci := 6) (j := 8) em44_99 rfl inX6 (by decide) wd_195 ((congrFun xo_7 23).trans rfl)) ⟨_, rfl, rfl⟩ ?_
  refine hA_const (k := 0) (zs_iconst (v := 0) em44_102 (by decide +kernel)) (by decide +kernel) (fun z102 hz102 => ?_)
  refine hA_const (k := 7) (zs_bipush (v := 7) em44_103 (by decide +kernel)) (by decide +kernel) (fun z103 hz103 => ?_)
  refine hA_copyV (kd := 6) (kd0 := 17) (len := 7) (len0 := 7) (zs_copy zInj0 em44_105 wd_829 wd_831 wd_830 wd_131 (by decide +kernel) ((congrFun xo_7 79).trans rfl)) ⟨⟨rfl, rfl, rfl⟩, rfl, rfl, rfl, by decide, by decide⟩ (Nat.le_of_ble_eq_true rfl) (by omega) (by omega) (by show _ = ((7 : Nat) : Int); omega) ?_
  refine hA_aload (zs_aload_n em44_108) rfl ?_
  refine hA_getf2 (r := 18) (zs_getf (T := TX6) (M := 15) (ci := 6) (j := 9) em44_109 rfl inX6 (by decide) wd_202 ((congrFun xo_7 26).trans rfl)) ⟨_, rfl, rfl⟩ ?_
  refine hA_const (k := 0) (zs_iconst (v := 0) em44_112 (by decide +kernel)) (by decide +kernel) (fun z112 hz112 => ?_)
  refine hA_aload (zs_aload_n em44_113) rfl ?_
  refine hA_getf2 (r := 7) (zs_getf (T := TX6) (M := 15) (ci := 6) (j := 9) em44_114 rfl inX6 (by decide) wd_202 ((congrFun xo_7 26).trans rfl)) ⟨_, rfl, rfl⟩ ?_
  refine hA_const (k := 0) (zs_iconst (v := 0) em44_117 (by decide +kernel)) (by decide +kernel) (fun z117 hz117 => ?_)
  refine hA_const (k := 56) (zs_bipush (v := 56) em44_118 (by decide +kernel)) (by decide +kernel) (fun z118 hz118 => ?_)
  refine hA_copyH (kd := 7) (kd0 := 18) (len := 56) (len0 := 56) (zs_copy zInj0 em44_120 wd_829 wd_831 wd_830 wd_131 (by decide +kernel) ((congrFun xo_7 79).trans rfl)) ⟨⟨rfl, rfl, rfl⟩, rfl, rfl, rfl, rfl, by decide, by decide⟩ (Nat.le_of_ble_eq_true rfl) (by omega) (by omega) (by show _ = ((56 : Nat) : Int); omega) ?_
  refine hA_aload (zs_aload_n em44_123) rfl ?_
  refine hA_getf2 (r := 19) (zs_getf (T := TX6) (M := 15) (ci := 6) (j := 10) em44_124 rfl inX6 (by decide) wd_207 ((congrFun xo_7 29).trans rfl)) ⟨_, rfl, rfl⟩ ?_
  refine hA_const (k := 0) (zs_iconst (v := 0) em44_127 (by decide +kernel)) (by decide +kernel) (fun z127 hz127 => ?_)
  refine hA_aload (zs_aload_n em44_128) rfl ?_
  refine hA_getf2 (r := 8) (zs_getf (T := TX6) (M := 15) (ci := 6) (j := 10) em44_129 rfl inX6 (by decide) wd_207 ((congrFun xo_7 29).trans rfl)) ⟨_, rfl, rfl⟩ ?_
  refine hA_const (k := 0) (zs_iconst (v := 0) em44_132 (by decide +kernel)) (by decide +kernel) (fun z132 hz132 => ?_)
  refine hA_const (k := 56) (zs_bipush (v := 56) em44_133 (by decide +kernel)) (by decide +kernel) (fun z133 hz133 => ?_)
  refine hA_copyH (kd := 8) (kd0 := 19) (len := 56) (len0 := 56) (zs_copy zInj0 em44_135 wd_829 wd_831 wd_830 wd_131 (by decide +kernel) ((congrFun xo_7 79).trans rfl)) ⟨⟨rfl, rfl, rfl⟩, rfl, rfl, rfl, rfl, by decide, by decide⟩ (Nat.le_of_ble_eq_true rfl) (by omega) (by omega) (by show _ = ((56 : Nat) : Int); omega) ?_
  refine hA_aload (zs_aload_n em44_138) rfl ?_
  refine hA_getf2 (r := 20) (zs_getf (T := TX6) (M := 15) (ci := 6) (j := 11) em44_139 rfl inX6 (by decide) wd_211 ((congrFun xo_7 32).trans rfl)) ⟨_, rfl, rfl⟩ ?_
  refine hA_const (k := 0) (zs_iconst (v := 0) em44_142 (by decide +kernel)) (by decide +kernel) (fun z142 hz142 => ?_)
  refine hA_aload (zs_aload_n em44_143) rfl ?_
  refine hA_getf2 (r := 9) (zs_getf (T := TX6) (M := 15) (ci := 6) (j := 11) em44_144 rfl inX6 (by decide) wd_211 ((congrFun xo_7 32).trans rfl)) ⟨_, rfl, rfl⟩ ?_
  refine hA_const (k := 0) (zs_iconst (v := 0) em44_147 (by decide +kernel)) (by decide +kernel) (fun z147 hz147 => ?_)
  refine hA_const (k := 4) (zs_iconst (v := 4) em44_148 (by decide +kernel)) (by decide +kernel) (fun z148 hz148 => ?_)
  refine hA_copyH (kd := 9) (kd0 := 20) (len := 4) (len0 := 4) (zs_copy zInj0 em44_149 wd_829 wd_831 wd_830 wd_131 (by decide +kernel) ((congrFun xo_7 79).trans rfl)) ⟨⟨rfl, rfl, rfl⟩, rfl, rfl, rfl, rfl, by decide, by decide⟩ (Nat.le_of_ble_eq_true rfl) (by omega) (by omega) (by show _ = ((4 : Nat) : Int); omega) ?_
  refine hA_aload (zs_aload_n em44_152) rfl ?_
  refine hA_getf2 (r := 21) (zs_getf (T := TX6) (M := 15) (ci := 6) (j := 12) em44_153 rfl inX6 (by decide) wd_214 ((congrFun xo_7 35).trans rfl)) ⟨_, rfl, rfl⟩ ?_
  refine hA_const (k := 0) (zs_iconst (v := 0) em44_156 (by decide +kernel)) (by decide +kernel) (fun z156 hz156 => ?_)
  refine hA_aload (zs_aload_n em44_157) rfl ?_
  refine hA_getf2 (r := 10) (zs_getf (T := TX6) (M := 15) (ci := 6) (j := 12) em44_158 rfl inX6 (by decide) wd_214 ((congrFun xo_7 35).trans rfl)) ⟨_, rfl, rfl⟩ ?_
  refine hA_const (k := 0) (zs_iconst (v := 0) em44_161 (by decide +kernel)) (by decide +kernel) (fun z161 hz161 => ?_)
  refine hA_const (k := 408) (zs_sipush (v := 408) em44_162 (by decide +kernel)) (by decide +kernel) (fun z162 hz162 => ?_)
  refine hA_copyV (kd := 10) (kd0 := 21) (len := 408) (len0 := 408) (zs_copy zInj0 em44_165 wd_829 wd_831 wd_830 wd_131 (by decide +kernel) ((congrFun xo_7 79).trans rfl)) ⟨⟨rfl, rfl, rfl⟩, rfl, rfl, rfl, by decide, by decide⟩ (Nat.le_of_ble_eq_true rfl) (by omega) (by omega) (by show _ = ((408 : Nat) : Int); omega) ?_
  refine hA_aload (zs_aload_n em44_168) rfl ?_
  refine hA_getf2 (r := 22) (zs_getf (T := TX6) (M := 15) (ci := 6) (j := 13) em44_169 rfl inX6 (by decide) wd_216 ((congrFun xo_7 38).trans rfl)) ⟨_, rfl, rfl⟩ ?_
  refine hA_const (k := 0) (zs_iconst (v := 0) em44_172 (by decide +kernel)) (by decide +kernel) (fun z172 hz172 => ?_)
  refine hA_aload (zs_aload_n em44_173) rfl ?_
  refine hA_getf2 (r := 11) (zs_getf (T := TX6) (M := 15) (ci := 6) (j := 13) em44_174 rfl inX6 (by decide) wd_216 ((congrFun xo_7 38).trans rfl)) ⟨_, rfl, rfl⟩ ?_
  refine hA_const (k := 0) (zs_iconst (v := 0) em44_177 (by decide +kernel)) (by decide +kernel) (fun z177 hz177 => ?_)
  refine hA_const (k := 408) (zs_sipush (v := 408) em44_178 (by decide +kernel)) (by decide +kernel) (fun z178 hz178 => ?_)
  refine hA_copyV (kd := 11) (kd0 := 22) (len := 408) (len0 := 408) (zs_copy zInj0 em44_181 wd_829 wd_831 wd_830 wd_131 (by decide +kernel) ((congrFun xo_7 79).trans rfl)) ⟨⟨rfl, rfl, rfl⟩, rfl, rfl, rfl, by decide, by decide⟩ (Nat.le_of_ble_eq_true rfl) (by omega) (by omega) (by show _ = ((408 : Nat) : Int); omega) ?_
  refine hA_return ⟨rfl, em44_184⟩ ⟨Nat.le_refl _, Nat.le_refl _⟩ ?_
  exact ⟨⟨_, List.mem_cons_self, rfl, hCh_nil, (fun id hl _ => by rw [zcp_lo hl, zcp_lo hl, zcp_lo hl]), (fun _ h => absurd h List.not_mem_nil)⟩, (fun _ => zInv_become hInv), (fun h => by cases h)⟩
theorem em43_0 : decode prog_8_method_4_code 0 = .ok (.aload_n 0, 1) := by decide +kernel
theorem em43_1 : decode prog_8_method_4_code 1 = .ok (.getfield 66, 3) := by decide +kernel
theorem em43_4 : decode prog_8_method_4_code 4 = .ok (.sipush 408, 3) := by decide +kernel
theorem em43_7 : decode prog_8_method_4_code 7 = .ok (.if_icmp .ge 33, 3) := by decide +kernel
theorem em43_10 : decode prog_8_method_4_code 10 = .ok (.aload_n 0, 1) := by decide +kernel
theorem em43_11 : decode prog_8_method_4_code 11 = .ok (.getfield 35, 3) := by decide +kernel
theorem em43_14 : decode prog_8_method_4_code 14 = .ok (.aload_n 0, 1) := by decide +kernel
theorem em43_15 : decode prog_8_method_4_code 15 = .ok (.getfield 66, 3) := by decide +kernel
theorem em43_18 : decode prog_8_method_4_code 18 = .ok (.iload_n 1, 1) := by decide +kernel
theorem em43_19 : decode prog_8_method_4_code 19 = .ok (.iastore, 1) := by decide +kernel
theorem em43_20 : decode prog_8_method_4_code 20 = .ok (.aload_n 0, 1) := by decide +kernel
theorem em43_21 : decode prog_8_method_4_code 21 = .ok (.getfield 38, 3) := by decide +kernel
theorem em43_24 : decode prog_8_method_4_code 24 = .ok (.aload_n 0, 1) := by decide +kernel
theorem em43_25 : decode prog_8_method_4_code 25 = .ok (.getfield 66, 3) := by decide +kernel
theorem em43_28 : decode prog_8_method_4_code 28 = .ok (.iload_n 2, 1) := by decide +kernel
theorem em43_29 : decode prog_8_method_4_code 29 = .ok (.iastore, 1) := by decide +kernel
theorem em43_30 : decode prog_8_method_4_code 30 = .ok (.aload_n 0, 1) := by decide +kernel
theorem em43_31 : decode prog_8_method_4_code 31 = .ok (.dup, 1) := by decide +kernel
theorem em43_32 : decode prog_8_method_4_code 32 = .ok (.getfield 66, 3) := by decide +kernel
theorem em43_35 : decode prog_8_method_4_code 35 = .ok (.iconst 1, 1) := by decide +kernel
theorem em43_36 : decode prog_8_method_4_code 36 = .ok (.iadd, 1) := by decide +kernel
theorem em43_37 : decode prog_8_method_4_code 37 = .ok (.putfield 66, 3) := by decide +kernel
theorem em43_40 : decode prog_8_method_4_code 40 = .ok (.return_, 1) := by decide +kernel
set_option maxRecDepth 10000 in
set_option maxHeartbeats 4000000 in
theorem hM_282 : zOKx 282 := by
  intro d hc as I q h hq
  have h : hpr_282 (d + 1) as I := h
  obtain ⟨hd, a, b, rfl, hpre⟩ := h
  cases (show some _ = some q from hq)
  refine hmet (L := [some (.inr (.inl (some 13))), some (.inl a), some (.inl b)]) (by decide) (Nat.le_of_ble_eq_true rfl) hc rfl ?_
  obtain ⟨hp0, hp1⟩ := hpre
  refine hA_aload (zs_aload_n em43_0) rfl ?_
  refine hA_getf0 (id := 4) (zs_getf (T := TX6) (M := 15) (ci := 6) (j := 14) em43_1 rfl inX6 (by decide) wd_218 ((congrFun xo_7 66).trans rfl)) ⟨_, rfl, rfl⟩ (fun z1 hz1 => ?_)
  refine hA_const (k := 408) (zs_sipush (v := 408) em43_4 (by decide +kernel)) (by decide +kernel) (fun z4 hz4 => ?_)
  refine hA_icmp (zs_icmpge em43_7 (t := 40) (by decide)) (fun (c7 : z4.toInt ≤ z1.toInt) => ?_) (fun (c7 : ¬ z4.toInt ≤ z1.toInt) => ?_)
  · refine hA_return ⟨rfl, em43_40⟩ ⟨Nat.le_refl _, Nat.le_refl _⟩ ?_
    intro a' b' he
    cases he
    exact ⟨rfl, Or.inl ⟨by omega, rfl⟩⟩
  · refine hA_aload (zs_aload_n em43_10) rfl ?_
    refine hA_getf2 (r := 21) (zs_getf (T := TX6) (M := 15) (ci := 6) (j := 12) em43_11 rfl inX6 (by decide) wd_214 ((congrFun xo_7 35).trans rfl)) ⟨_, rfl, rfl⟩ ?_
    refine hA_aload (zs_aload_n em43_14) rfl ?_
    refine hA_getf0 (id := 4) (zs_getf (T := TX6) (M := 15) (ci := 6) (j := 14) em43_15 rfl inX6 (by decide) wd_218 ((congrFun xo_7 66).trans rfl)) ⟨_, rfl, rfl⟩ (fun z15 hz15 => ?_)
    refine hA_iload (zs_iload_n em43_18) rfl ?_
    refine hA_iast (kd := 21) (len := 408) (zs_iast zInj0 em43_19) ⟨rfl, rfl, rfl⟩ (by omega) (by show _ < ((408 : Nat) : Int); omega) ?_
    refine hA_aload (zs_aload_n em43_20) rfl ?_
    refine hA_getf2 (r := 22) (zs_getf (T := TX6) (M := 15) (ci := 6) (j := 13) em43_21 rfl inX6 (by decide) wd_216 ((congrFun xo_7 38).trans rfl)) ⟨_, rfl, rfl⟩ ?_
    refine hA_aload (zs_aload_n em43_24) rfl ?_
    refine hA_getf0 (id := 4) (zs_getf (T := TX6) (M := 15) (ci := 6) (j := 14) em43_25 rfl inX6 (by decide) wd_218 ((congrFun xo_7 66).trans rfl)) ⟨_, rfl, rfl⟩ (fun z25 hz25 => ?_)
    rw [zf_arr _ _ _ _ _ (by decide)] at hz25
    refine hA_iload (zs_iload_n em43_28) rfl ?_
    refine hA_iast (kd := 22) (len := 408) (zs_iast zInj0 em43_29) ⟨rfl, rfl, rfl⟩ (by omega) (by show _ < ((408 : Nat) : Int); omega) ?_
    refine hA_aload (zs_aload_n em43_30) rfl ?_
    refine hA_dup (zs_dup em43_31) rfl ?_
    refine hA_getf0 (id := 4) (zs_getf (T := TX6) (M := 15) (ci := 6) (j := 14) em43_32 rfl inX6 (by decide) wd_218 ((congrFun xo_7 66).trans rfl)) ⟨_, rfl, rfl⟩ (fun z32 hz32 => ?_)
    rw [zf_arr _ _ _ _ _ (by decide), zf_arr _ _ _ _ _ (by decide)] at hz32
    refine hA_const (k := 1) (zs_iconst (v := 1) em43_35 (by decide +kernel)) (by decide +kernel) (fun z35 hz35 => ?_)
    refine hA_add (zs_iadd em43_36) (by omega) (by omega) (fun z36 hz36 => ?_)
    refine hA_puti0 (id := 4) (zs_puti zInj0 (T := TX6) (M := 15) (ty := tyX6) (ci := 6) (j := 14) (kd := 0) em43_37 rfl inX6 tyX6_ok nmX6 (by decide) wd_218 (Or.inl ⟨rfl, rfl⟩) rfl ((congrFun xo_7 66).trans rfl)) ⟨_, rfl, rfl⟩ (fun h => by cases h) ?_
    refine hA_return ⟨rfl, em43_40⟩ ⟨Nat.le_refl _, Nat.le_refl _⟩ ?_
    intro a' b' he
    cases he
    exact ⟨rfl, Or.inr ⟨by omega, z15, z36, by omega, by omega, by rw [show z25.toInt = z15.toInt by omega]⟩⟩
set_option maxRecDepth 10000 in
set_option maxHeartbeats 4000000 in
theorem hM_44 : zOKh 44 zc_44 := by
  intro d hc as I q h hq
  obtain ⟨hd, ⟨_, _, rfl, rfl, ⟨_, _, rfl, ⟨x1, rfl, hx1, hx1b⟩, ⟨_, _, rfl, ⟨x2, rfl, hx2, hx2b⟩, rfl⟩⟩⟩, hF, hI⟩ := h
  have hd : 2 ≤ d + 1 := hd
  have hx1 : (0 : Int) ≤ x1.toInt := hx1
  have hx1b : x1.toInt ≤ (0 : Int) := hx1b
  have hx2 : ((-2147483648) : Int) ≤ x2.toInt := hx2
  have hx2b : x2.toInt ≤ (2147483647 : Int) := hx2b
  have hf4 : (0 : Int) ≤ zf I 4 ∧ zf I 4 ≤ (408 : Int) := hF _ List.mem_cons_self
  have hInv : zInv I := hI rfl
  cases (show some _ = some q from hq)
  refine hmet (L := [some (.inr (.inl (some 13))), some (.inl x1), some (.inl x2)]) (by decide) (Nat.le_of_ble_eq_true rfl) hc rfl ?_
  refine hA_aload (zs_aload_n em43_0) rfl ?_
  refine hA_getf0 (id := 4) (zs_getf (T := TX6) (M := 15) (ci := 6) (j := 14) em43_1 rfl inX6 (by decide) wd_218 ((congrFun xo_7 66).trans rfl)) ⟨_, rfl, rfl⟩ (fun z1 hz1 => ?_)
  refine hA_const (k := 408) (zs_sipush (v := 408) em43_4 (by decide +kernel)) (by decide +kernel) (fun z4 hz4 => ?_)
  refine hA_icmp (zs_icmpge em43_7 (t := 40) (by decide)) (fun (c7 : z4.toInt ≤ z1.toInt) => ?_) (fun (c7 : ¬ z4.toInt ≤ z1.toInt) => ?_)
  · refine hA_return ⟨rfl, em43_40⟩ ⟨Nat.le_refl _, Nat.le_refl _⟩ ?_
    exact ⟨⟨_, List.mem_cons_self, rfl, (hCh_cons (fun k hk => none_no hk) ⟨by omega, by omega⟩ hCh_nil), (fun id hl hn => rfl), (fun _ h => absurd h List.not_mem_nil)⟩, (fun _ => hInv), (fun h => by cases h)⟩
  · refine hA_aload (zs_aload_n em43_10) rfl ?_
    refine hA_getf2 (r := 21) (zs_getf (T := TX6) (M := 15) (ci := 6) (j := 12) em43_11 rfl inX6 (by decide) wd_214 ((congrFun xo_7 35).trans rfl)) ⟨_, rfl, rfl⟩ ?_
    refine hA_aload (zs_aload_n em43_14) rfl ?_
    refine hA_getf0 (id := 4) (zs_getf (T := TX6) (M := 15) (ci := 6) (j := 14) em43_15 rfl inX6 (by decide) wd_218 ((congrFun xo_7 66).trans rfl)) ⟨_, rfl, rfl⟩ (fun z15 hz15 => ?_)
    refine hA_iload (zs_iload_n em43_18) rfl ?_
    refine hA_iast (kd := 21) (len := 408) (zs_iast zInj0 em43_19) ⟨rfl, rfl, rfl⟩ (by omega) (by show _ < ((408 : Nat) : Int); omega) ?_
    refine hA_aload (zs_aload_n em43_20) rfl ?_
    refine hA_getf2 (r := 22) (zs_getf (T := TX6) (M := 15) (ci := 6) (j := 13) em43_21 rfl inX6 (by decide) wd_216 ((congrFun xo_7 38).trans rfl)) ⟨_, rfl, rfl⟩ ?_
    refine hA_aload (zs_aload_n em43_24) rfl ?_
    refine hA_getf0 (id := 4) (zs_getf (T := TX6) (M := 15) (ci := 6) (j := 14) em43_25 rfl inX6 (by decide) wd_218 ((congrFun xo_7 66).trans rfl)) ⟨_, rfl, rfl⟩ (fun z25 hz25 => ?_)
    rw [zf_arr _ _ _ _ _ (by decide)] at hz25
    refine hA_iload (zs_iload_n em43_28) rfl ?_
    refine hA_iast (kd := 22) (len := 408) (zs_iast zInj0 em43_29) ⟨rfl, rfl, rfl⟩ (by omega) (by show _ < ((408 : Nat) : Int); omega) ?_
    refine hA_aload (zs_aload_n em43_30) rfl ?_
    refine hA_dup (zs_dup em43_31) rfl ?_
    refine hA_getf0 (id := 4) (zs_getf (T := TX6) (M := 15) (ci := 6) (j := 14) em43_32 rfl inX6 (by decide) wd_218 ((congrFun xo_7 66).trans rfl)) ⟨_, rfl, rfl⟩ (fun z32 hz32 => ?_)
    rw [zf_arr _ _ _ _ _ (by decide), zf_arr _ _ _ _ _ (by decide)] at hz32
    refine hA_const (k := 1) (zs_iconst (v := 1) em43_35 (by decide +kernel)) (by decide +kernel) (fun z35 hz35 => ?_)
    refine hA_add (zs_iadd em43_36) (by omega) (by omega) (fun z36 hz36 => ?_)
    refine hA_puti0 (id := 4) (zs_puti zInj0 (T := TX6) (M := 15) (ty := tyX6) (ci := 6) (j := 14) (kd := 0) em43_37 rfl inX6 tyX6_ok nmX6 (by decide) wd_218 (Or.inl ⟨rfl, rfl⟩) rfl ((congrFun xo_7 66).trans rfl)) ⟨_, rfl, rfl⟩ (fun h => by cases h) ?_
    refine hA_return ⟨rfl, em43_40⟩ ⟨Nat.le_refl _, Nat.le_refl _⟩ ?_
    exact ⟨⟨_, List.mem_cons_self, rfl, (hCh_cons (fun k hk => none_no hk) ⟨by rw [zf_same]; omega, by rw [zf_same]; omega⟩ hCh_nil), (fun id hl hn => ((zupd_fr (fun e => by subst e; exact hn _ List.mem_cons_self)).trans (((zupd_hi2 hl).trans (((zupd_hi2 hl).trans (rfl))))))), (fun _ h => absurd h List.not_mem_nil)⟩, (fun _ => zInv_add hInv (by omega) (by omega) (by omega) (fun h => ⟨by omega, by omega⟩)), (fun h => by cases h)⟩
set_option maxRecDepth 10000 in
set_option maxHeartbeats 4000000 in
theorem hM_45 : zOKh 45 zc_45 := by
  intro d hc as I q h hq
  obtain ⟨hd, ⟨_, _, rfl, rfl, ⟨_, _, rfl, ⟨x1, rfl, hx1, hx1b⟩, ⟨_, _, rfl, ⟨x2, rfl, hx2, hx2b⟩, rfl⟩⟩⟩, hF, hI⟩ := h
  have hd : 2 ≤ d + 1 := hd
  have hx1 : (1 : Int) ≤ x1.toInt := hx1
  have hx1b : x1.toInt ≤ (1 : Int) := hx1b
  have hx2 : (0 : Int) ≤ x2.toInt := hx2
  have hx2b : x2.toInt ≤ (8 : Int) := hx2b
  have hf4 : (0 : Int) ≤ zf I 4 ∧ zf I 4 ≤ (408 : Int) := hF _ List.mem_cons_self
  have hInv : zInv I := hI rfl
  cases (show some _ = some q from hq)
  refine hmet (L := [some (.inr (.inl (some 13))), some (.inl x1), some (.inl x2)]) (by decide) (Nat.le_of_ble_eq_true rfl) hc rfl ?_
  refine hA_aload (zs_aload_n em43_0) rfl ?_
  refine hA_getf0 (id := 4) (zs_getf (T := TX6) (M := 15) (ci := 6) (j := 14) em43_1 rfl inX6 (by decide) wd_218 ((congrFun xo_7 66).trans rfl)) ⟨_, rfl, rfl⟩ (fun z1 hz1 => ?_)
  refine hA_const (k := 408) (zs_sipush (v := 408) em43_4 (by decide +kernel)) (by decide +kernel) (fun z4 hz4 => ?_)
  refine hA_icmp (zs_icmpge em43_7 (t := 40) (by decide)) (fun (c7 : z4.toInt ≤ z1.toInt) => ?_) (fun (c7 : ¬ z4.toInt ≤ z1.toInt) => ?_)
  · refine hA_return ⟨rfl, em43_40⟩ ⟨Nat.le_refl _, Nat.le_refl _⟩ ?_
    exact ⟨⟨_, List.mem_cons_self, rfl, (hCh_cons (fun k hk => none_no hk) ⟨by omega, by omega⟩ hCh_nil), (fun id hl hn => rfl), (fun _ h => absurd h List.not_mem_nil)⟩, (fun _ => hInv), (fun h => by cases h)⟩
  · refine hA_aload (zs_aload_n em43_10) rfl ?_
    refine hA_getf2 (r := 21) (zs_getf (T := TX6) (M := 15) (ci := 6) (j := 12) em43_11 rfl inX6 (by decide) wd_214 ((congrFun xo_7 35).trans rfl)) ⟨_, rfl, rfl⟩ ?_
    refine hA_aload (zs_aload_n em43_14) rfl ?_
    refine hA_getf0 (id := 4) (zs_getf (T := TX6) (M := 15) (ci := 6) (j := 14) em43_15 rfl inX6 (by decide) wd_218 ((congrFun xo_7 66).trans rfl)) ⟨_, rfl, rfl⟩ (fun z15 hz15 => ?_)
    refine hA_iload (zs_iload_n em43_18) rfl ?_
    refine hA_iast (kd := 21) (len := 408) (zs_iast zInj0 em43_19) ⟨rfl, rfl, rfl⟩ (by omega) (by show _ < ((408 : Nat) : Int); omega) ?_
    refine hA_aload (zs_aload_n em43_20) rfl ?_
    refine hA_getf2 (r := 22) (zs_getf (T := TX6) (M := 15) (ci := 6) (j := 13) em43_21 rfl inX6 (by decide) wd_216 ((congrFun xo_7 38).trans rfl)) ⟨_, rfl, rfl⟩ ?_
    refine hA_aload (zs_aload_n em43_24) rfl ?_
    refine hA_getf0 (id := 4) (zs_getf (T := TX6) (M := 15) (ci := 6) (j := 14) em43_25 rfl inX6 (by decide) wd_218 ((congrFun xo_7 66).trans rfl)) ⟨_, rfl, rfl⟩ (fun z25 hz25 => ?_)
    rw [zf_arr _ _ _ _ _ (by decide)] at hz25
    refine hA_iload (zs_iload_n em43_28) rfl ?_
    refine hA_iast (kd := 22) (len := 408) (zs_iast zInj0 em43_29) ⟨rfl, rfl, rfl⟩ (by omega) (by show _ < ((408 : Nat) : Int); omega) ?_
    refine hA_aload (zs_aload_n em43_30) rfl ?_
    refine hA_dup (zs_dup em43_31) rfl ?_
    refine hA_getf0 (id := 4) (zs_getf (T := TX6) (M := 15) (ci := 6) (j := 14) em43_32 rfl inX6 (by decide) wd_218 ((congrFun xo_7 66).trans rfl)) ⟨_, rfl, rfl⟩ (fun z32 hz32 => ?_)
    rw [zf_arr _ _ _ _ _ (by decide), zf_arr _ _ _ _ _ (by decide)] at hz32
    refine hA_const (k := 1) (zs_iconst (v := 1) em43_35 (by decide +kernel)) (by decide +kernel) (fun z35 hz35 => ?_)
    refine hA_add (zs_iadd em43_36) (by omega) (by omega) (fun z36 hz36 => ?_)
    refine hA_puti0 (id := 4) (zs_puti zInj0 (T := TX6) (M := 15) (ty := tyX6) (ci := 6) (j := 14) (kd := 0) em43_37 rfl inX6 tyX6_ok nmX6 (by decide) wd_218 (Or.inl ⟨rfl, rfl⟩) rfl ((congrFun xo_7 66).trans rfl)) ⟨_, rfl, rfl⟩ (fun h => by cases h) ?_
    refine hA_return ⟨rfl, em43_40⟩ ⟨Nat.le_refl _, Nat.le_refl _⟩ ?_
    exact ⟨⟨_, List.mem_cons_self, rfl, (hCh_cons (fun k hk => none_no hk) ⟨by rw [zf_same]; omega, by rw [zf_same]; omega⟩ hCh_nil), (fun id hl hn => ((zupd_fr (fun e => by subst e; exact hn _ List.mem_cons_self)).trans (((zupd_hi2 hl).trans (((zupd_hi2 hl).trans (rfl))))))), (fun _ h => absurd h List.not_mem_nil)⟩, (fun _ => zInv_add hInv (by omega) (by omega) (by omega) (fun h => ⟨by omega, by omega⟩)), (fun h => by cases h)⟩
set_option maxRecDepth 10000 in
set_option maxHeartbeats 4000000 in
theorem hM_46 : zOKh 46 zc_46 := by
  intro d hc as I q h hq
  obtain ⟨hd, ⟨_, _, rfl, rfl, ⟨_, _, rfl, ⟨x1, rfl, hx1, hx1b⟩, ⟨_, _, rfl, ⟨x2, rfl, hx2, hx2b⟩, rfl⟩⟩⟩, hF, hI⟩ := h
  have hd : 2 ≤ d + 1 := hd
  have hx1 : (7 : Int) ≤ x1.toInt := hx1
  have hx1b : x1.toInt ≤ (7 : Int) := hx1b
  have hx2 : ((-2147483648) : Int) ≤ x2.toInt := hx2
  have hx2b : x2.toInt ≤ (2147483647 : Int) := hx2b
  have hf4 : (0 : Int) ≤ zf I 4 ∧ zf I 4 ≤ (408 : Int) := hF _ List.mem_cons_self
  have hInv : zInv I := hI rfl
  cases (show some _ = some q from hq)
  refine hmet (L := [some (.inr (.inl (some 13))), some (.inl x1), some (.inl x2)]) (by decide) (Nat.le_of_ble_eq_true rfl) hc rfl ?_
  refine hA_aload (zs_aload_n em43_0) rfl ?_
  refine hA_getf0 (id := 4) (zs_getf (T := TX6) (M := 15) (ci := 6) (j := 14) em43_1 rfl inX6 (by decide) wd_218 ((congrFun xo_7 66).trans rfl)) ⟨_, rfl, rfl⟩ (fun z1 hz1 => ?_)
  refine hA_const (k := 408) (zs_sipush (v := 408) em43_4 (by decide +kernel)) (by decide +kernel) (fun z4 hz4 => ?_)
  refine hA_icmp (zs_icmpge em43_7 (t := 40) (by decide)) (fun (c7 : z4.toInt ≤ z1.toInt) => ?_) (fun (c7 : ¬ z4.toInt ≤ z1.toInt) => ?_)
  · refine hA_return ⟨rfl, em43_40⟩ ⟨Nat.le_refl _, Nat.le_refl _⟩ ?_
    exact ⟨⟨_, List.mem_cons_self, rfl, (hCh_cons (fun k hk => none_no hk) ⟨by omega, by omega⟩ hCh_nil), (fun id hl hn => rfl), (fun _ h => absurd h List.not_mem_nil)⟩, (fun _ => hInv), (fun h => by cases h)⟩
  · refine hA_aload (zs_aload_n em43_10) rfl ?_
    refine hA_getf2 (r := 21) (zs_getf (T := TX6) (M := 15) (ci := 6) (j := 12) em43_11 rfl inX6 (by decide) wd_214 ((congrFun xo_7 35).trans rfl)) ⟨_, rfl, rfl⟩ ?_
    refine hA_aload (zs_aload_n em43_14) rfl ?_
    refine hA_getf0 (id := 4) (zs_getf (T := TX6) (M := 15) (ci := 6) (j := 14) em43_15 rfl inX6 (by decide) wd_218 ((congrFun xo_7 66).trans rfl)) ⟨_, rfl, rfl⟩ (fun z15 hz15 => ?_)
    refine hA_iload (zs_iload_n em43_18) rfl ?_
    refine hA_iast (kd := 21) (len := 408) (zs_iast zInj0 em43_19) ⟨rfl, rfl, rfl⟩ (by omega) (by show _ < ((408 : Nat) : Int); omega) ?_
    refine hA_aload (zs_aload_n em43_20) rfl ?_
    refine hA_getf2 (r := 22) (zs_getf (T := TX6) (M := 15) (ci := 6) (j := 13) em43_21 rfl inX6 (by decide) wd_216 ((congrFun xo_7 38).trans rfl)) ⟨_, rfl, rfl⟩ ?_
    refine hA_aload (zs_aload_n em43_24) rfl ?_
    refine hA_getf0 (id := 4) (zs_getf (T := TX6) (M := 15) (ci := 6) (j := 14) em43_25 rfl inX6 (by decide) wd_218 ((congrFun xo_7 66).trans rfl)) ⟨_, rfl, rfl⟩ (fun z25 hz25 => ?_)
    rw [zf_arr _ _ _ _ _ (by decide)] at hz25
    refine hA_iload (zs_iload_n em43_28) rfl ?_
    refine hA_iast (kd := 22) (len := 408) (zs_iast zInj0 em43_29) ⟨rfl, rfl, rfl⟩ (by omega) (by show _ < ((408 : Nat) : Int); omega) ?_
    refine hA_aload (zs_aload_n em43_30) rfl ?_
    refine hA_dup (zs_dup em43_31) rfl ?_
    refine hA_getf0 (id := 4) (zs_getf (T := TX6) (M := 15) (ci := 6) (j := 14) em43_32 rfl inX6 (by decide) wd_218 ((congrFun xo_7 66).trans rfl)) ⟨_, rfl, rfl⟩ (fun z32 hz32 => ?_)
    rw [zf_arr _ _ _ _ _ (by decide), zf_arr _ _ _ _ _ (by decide)] at hz32
    refine hA_const (k := 1) (zs_iconst (v := 1) em43_35 (by decide +kernel)) (by decide +kernel) (fun z35 hz35 => ?_)
    refine hA_add (zs_iadd em43_36) (by omega) (by omega) (fun z36 hz36 => ?_)
    refine hA_puti0 (id := 4) (zs_puti zInj0 (T := TX6) (M := 15) (ty := tyX6) (ci := 6) (j := 14) (kd := 0) em43_37 rfl inX6 tyX6_ok nmX6 (by decide) wd_218 (Or.inl ⟨rfl, rfl⟩) rfl ((congrFun xo_7 66).trans rfl)) ⟨_, rfl, rfl⟩ (fun h => by cases h) ?_
    refine hA_return ⟨rfl, em43_40⟩ ⟨Nat.le_refl _, Nat.le_refl _⟩ ?_
    exact ⟨⟨_, List.mem_cons_self, rfl, (hCh_cons (fun k hk => none_no hk) ⟨by rw [zf_same]; omega, by rw [zf_same]; omega⟩ hCh_nil), (fun id hl hn => ((zupd_fr (fun e => by subst e; exact hn _ List.mem_cons_self)).trans (((zupd_hi2 hl).trans (((zupd_hi2 hl).trans (rfl))))))), (fun _ h => absurd h List.not_mem_nil)⟩, (fun _ => zInv_add hInv (by omega) (by omega) (by omega) (fun h => ⟨by omega, by omega⟩)), (fun h => by cases h)⟩
theorem em233_0 : decode prog_8_method_5_code 0 = .ok (.iload_n 1, 1) := by decide +kernel
theorem em233_1 : decode prog_8_method_5_code 1 = .ok (.ifCond .lt 20, 3) := by decide +kernel
theorem em233_4 : decode prog_8_method_5_code 4 = .ok (.iload_n 1, 1) := by decide +kernel
theorem em233_5 : decode prog_8_method_5_code 5 = .ok (.sipush 408, 3) := by decide +kernel
theorem em233_8 : decode prog_8_method_5_code 8 = .ok (.if_icmp .ge 13, 3) := by decide +kernel
theorem em233_11 : decode prog_8_method_5_code 11 = .ok (.aload_n 0, 1) := by decide +kernel
theorem em233_12 : decode prog_8_method_5_code 12 = .ok (.getfield 38, 3) := by decide +kernel
theorem em233_15 : decode prog_8_method_5_code 15 = .ok (.iload_n 1, 1) := by decide +kernel
theorem em233_16 : decode prog_8_method_5_code 16 = .ok (.aload_n 0, 1) := by decide +kernel
theorem em233_17 : decode prog_8_method_5_code 17 = .ok (.getfield 66, 3) := by decide +kernel
theorem em233_20 : decode prog_8_method_5_code 20 = .ok (.iastore, 1) := by decide +kernel
theorem em233_21 : decode prog_8_method_5_code 21 = .ok (.return_, 1) := by decide +kernel
set_option maxRecDepth 10000 in
set_option maxHeartbeats 4000000 in
theorem hM_265 : zOKx 265 := by
  intro d hc as I q h hq
  have h : hpr_265 (d + 1) as I := h
  obtain ⟨hd, a, rfl, hpre⟩ := h
  cases (show some _ = some q from hq)
  refine hmet (L := [some (.inr (.inl (some 13))), some (.inl a)]) (by decide) (Nat.le_of_ble_eq_true rfl) hc rfl ?_
  obtain ⟨hp0, hp1⟩ := hpre
  refine hA_iload (zs_iload_n em233_0) rfl ?_
  refine hA_if (zs_iflt em233_1 (t := 21) (by decide)) (fun (c1 : a.toInt < 0) => ?_) (fun (c1 : ¬ a.toInt < 0) => ?_)
  · refine hA_return ⟨rfl, em233_21⟩ ⟨Nat.le_refl _, Nat.le_refl _⟩ ?_
    intro a' he
    cases he
    exact ⟨rfl, Or.inl ⟨by omega, rfl⟩⟩
  · refine hA_iload (zs_iload_n em233_4) rfl ?_
    refine hA_const (k := 408) (zs_sipush (v := 408) em233_5 (by decide +kernel)) (by decide +kernel) (fun z5 hz5 => ?_)
    refine hA_icmp (zs_icmpge em233_8 (t := 21) (by decide)) (fun (c8 : z5.toInt ≤ a.toInt) => ?_) (fun (c8 : ¬ z5.toInt ≤ a.toInt) => ?_)
    · refine hA_return ⟨rfl, em233_21⟩ ⟨Nat.le_refl _, Nat.le_refl _⟩ ?_
      intro a' he
      cases he
      exact ⟨rfl, Or.inl ⟨by omega, rfl⟩⟩
    · refine hA_aload (zs_aload_n em233_11) rfl ?_
      refine hA_getf2 (r := 22) (zs_getf (T := TX6) (M := 15) (ci := 6) (j := 13) em233_12 rfl inX6 (by decide) wd_216 ((congrFun xo_7 38).trans rfl)) ⟨_, rfl, rfl⟩ ?_
      refine hA_iload (zs_iload_n em233_15) rfl ?_
      refine hA_aload (zs_aload_n em233_16) rfl ?_
      refine hA_getf0 (id := 4) (zs_getf (T := TX6) (M := 15) (ci := 6) (j := 14) em233_17 rfl inX6 (by decide) wd_218 ((congrFun xo_7 66).trans rfl)) ⟨_, rfl, rfl⟩ (fun z17 hz17 => ?_)
      refine hA_iast (kd := 22) (len := 408) (zs_iast zInj0 em233_20) ⟨rfl, rfl, rfl⟩ (by omega) (by show _ < ((408 : Nat) : Int); omega) ?_
      refine hA_return ⟨rfl, em233_21⟩ ⟨Nat.le_refl _, Nat.le_refl _⟩ ?_
      intro a' he
      cases he
      exact ⟨rfl, Or.inr ⟨by omega, by omega, z17, by omega, rfl⟩⟩
