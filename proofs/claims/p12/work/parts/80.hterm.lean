theorem em232_0 : decode prog_14_method_39_code 0 = .ok (.iconst 0, 1) := by decide +kernel
theorem em232_1 : decode prog_14_method_39_code 1 = .ok (.istore_n 3, 1) := by decide +kernel
theorem em232_2 : decode prog_14_method_39_code 2 = .ok (.iload_n 1, 1) := by decide +kernel
theorem em232_3 : decode prog_14_method_39_code 3 = .ok (.istore 4, 2) := by decide +kernel
theorem em232_5 : decode prog_14_method_39_code 5 = .ok (.iload 4, 2) := by decide +kernel
theorem em232_7 : decode prog_14_method_39_code 7 = .ok (.iload_n 2, 1) := by decide +kernel
theorem em232_8 : decode prog_14_method_39_code 8 = .ok (.if_icmp .ge 157, 3) := by decide +kernel
theorem em232_11 : decode prog_14_method_39_code 11 = .ok (.aload_n 0, 1) := by decide +kernel
theorem em232_12 : decode prog_14_method_39_code 12 = .ok (.getfield 95, 3) := by decide +kernel
theorem em232_15 : decode prog_14_method_39_code 15 = .ok (.iload 4, 2) := by decide +kernel
theorem em232_17 : decode prog_14_method_39_code 17 = .ok (.iaload, 1) := by decide +kernel
theorem em232_18 : decode prog_14_method_39_code 18 = .ok (.istore 5, 2) := by decide +kernel
theorem em232_20 : decode prog_14_method_39_code 20 = .ok (.iload 5, 2) := by decide +kernel
theorem em232_22 : decode prog_14_method_39_code 22 = .ok (.iconst 2, 1) := by decide +kernel
theorem em232_23 : decode prog_14_method_39_code 23 = .ok (.if_icmp .ge 42, 3) := by decide +kernel
theorem em232_26 : decode prog_14_method_39_code 26 = .ok (.aload_n 0, 1) := by decide +kernel
theorem em232_27 : decode prog_14_method_39_code 27 = .ok (.getfield 110, 3) := by decide +kernel
theorem em232_30 : decode prog_14_method_39_code 30 = .ok (.iload_n 3, 1) := by decide +kernel
theorem em232_31 : decode prog_14_method_39_code 31 = .ok (.iload 5, 2) := by decide +kernel
theorem em232_33 : decode prog_14_method_39_code 33 = .ok (.ifCond .ne 13, 3) := by decide +kernel
theorem em232_36 : decode prog_14_method_39_code 36 = .ok (.aload_n 0, 1) := by decide +kernel
theorem em232_37 : decode prog_14_method_39_code 37 = .ok (.getfield 98, 3) := by decide +kernel
theorem em232_40 : decode prog_14_method_39_code 40 = .ok (.iload 4, 2) := by decide +kernel
theorem em232_42 : decode prog_14_method_39_code 42 = .ok (.iaload, 1) := by decide +kernel
theorem em232_43 : decode prog_14_method_39_code 43 = .ok (.goto 15, 3) := by decide +kernel
theorem em232_46 : decode prog_14_method_39_code 46 = .ok (.aload_n 0, 1) := by decide +kernel
theorem em232_47 : decode prog_14_method_39_code 47 = .ok (.getfield 107, 3) := by decide +kernel
theorem em232_50 : decode prog_14_method_39_code 50 = .ok (.aload_n 0, 1) := by decide +kernel
theorem em232_51 : decode prog_14_method_39_code 51 = .ok (.getfield 98, 3) := by decide +kernel
theorem em232_54 : decode prog_14_method_39_code 54 = .ok (.iload 4, 2) := by decide +kernel
theorem em232_56 : decode prog_14_method_39_code 56 = .ok (.iaload, 1) := by decide +kernel
theorem em232_57 : decode prog_14_method_39_code 57 = .ok (.iaload, 1) := by decide +kernel
theorem em232_58 : decode prog_14_method_39_code 58 = .ok (.iastore, 1) := by decide +kernel
theorem em232_59 : decode prog_14_method_39_code 59 = .ok (.iinc 3 1, 3) := by decide +kernel
theorem em232_62 : decode prog_14_method_39_code 62 = .ok (.goto 97, 3) := by decide +kernel
theorem em232_65 : decode prog_14_method_39_code 65 = .ok (.iinc 3 (-1), 3) := by decide +kernel
theorem em232_68 : decode prog_14_method_39_code 68 = .ok (.aload_n 0, 1) := by decide +kernel
theorem em232_69 : decode prog_14_method_39_code 69 = .ok (.getfield 110, 3) := by decide +kernel
theorem em232_72 : decode prog_14_method_39_code 72 = .ok (.iload_n 3, 1) := by decide +kernel
theorem em232_73 : decode prog_14_method_39_code 73 = .ok (.iconst 1, 1) := by decide +kernel
theorem em232_74 : decode prog_14_method_39_code 74 = .ok (.isub, 1) := by decide +kernel
theorem em232_75 : decode prog_14_method_39_code 75 = .ok (.iaload, 1) := by decide +kernel
theorem em232_76 : decode prog_14_method_39_code 76 = .ok (.istore 6, 2) := by decide +kernel
theorem em232_78 : decode prog_14_method_39_code 78 = .ok (.aload_n 0, 1) := by decide +kernel
theorem em232_79 : decode prog_14_method_39_code 79 = .ok (.getfield 110, 3) := by decide +kernel
theorem em232_82 : decode prog_14_method_39_code 82 = .ok (.iload_n 3, 1) := by decide +kernel
theorem em232_83 : decode prog_14_method_39_code 83 = .ok (.iaload, 1) := by decide +kernel
theorem em232_84 : decode prog_14_method_39_code 84 = .ok (.istore 7, 2) := by decide +kernel
theorem em232_86 : decode prog_14_method_39_code 86 = .ok (.iload 5, 2) := by decide +kernel
theorem em232_88 : decode prog_14_method_39_code 88 = .ok (.iconst 5, 1) := by decide +kernel
theorem em232_89 : decode prog_14_method_39_code 89 = .ok (.if_icmp .ne 15, 3) := by decide +kernel
theorem em232_92 : decode prog_14_method_39_code 92 = .ok (.iload 7, 2) := by decide +kernel
theorem em232_94 : decode prog_14_method_39_code 94 = .ok (.ifCond .ne 10, 3) := by decide +kernel
theorem em232_97 : decode prog_14_method_39_code 97 = .ok (.aload_n 0, 1) := by decide +kernel
theorem em232_98 : decode prog_14_method_39_code 98 = .ok (.iconst 1, 1) := by decide +kernel
theorem em232_99 : decode prog_14_method_39_code 99 = .ok (.putfield 320, 3) := by decide +kernel
theorem em232_102 : decode prog_14_method_39_code 102 = .ok (.iconst 0, 1) := by decide +kernel
theorem em232_103 : decode prog_14_method_39_code 103 = .ok (.ireturn, 1) := by decide +kernel
theorem em232_104 : decode prog_14_method_39_code 104 = .ok (.aload_n 0, 1) := by decide +kernel
theorem em232_105 : decode prog_14_method_39_code 105 = .ok (.getfield 110, 3) := by decide +kernel
theorem em232_108 : decode prog_14_method_39_code 108 = .ok (.iload_n 3, 1) := by decide +kernel
theorem em232_109 : decode prog_14_method_39_code 109 = .ok (.iconst 1, 1) := by decide +kernel
theorem em232_110 : decode prog_14_method_39_code 110 = .ok (.isub, 1) := by decide +kernel
theorem em232_111 : decode prog_14_method_39_code 111 = .ok (.iload 5, 2) := by decide +kernel
theorem em232_113 : decode prog_14_method_39_code 113 = .ok (.iconst 2, 1) := by decide +kernel
theorem em232_114 : decode prog_14_method_39_code 114 = .ok (.if_icmp .ne 11, 3) := by decide +kernel
theorem em232_117 : decode prog_14_method_39_code 117 = .ok (.iload 6, 2) := by decide +kernel
theorem em232_119 : decode prog_14_method_39_code 119 = .ok (.iload 7, 2) := by decide +kernel
theorem em232_121 : decode prog_14_method_39_code 121 = .ok (.iadd, 1) := by decide +kernel
theorem em232_122 : decode prog_14_method_39_code 122 = .ok (.goto 36, 3) := by decide +kernel
theorem em232_125 : decode prog_14_method_39_code 125 = .ok (.iload 5, 2) := by decide +kernel
theorem em232_127 : decode prog_14_method_39_code 127 = .ok (.iconst 3, 1) := by decide +kernel
theorem em232_128 : decode prog_14_method_39_code 128 = .ok (.if_icmp .ne 11, 3) := by decide +kernel
theorem em232_131 : decode prog_14_method_39_code 131 = .ok (.iload 6, 2) := by decide +kernel
theorem em232_133 : decode prog_14_method_39_code 133 = .ok (.iload 7, 2) := by decide +kernel
theorem em232_135 : decode prog_14_method_39_code 135 = .ok (.isub, 1) := by decide +kernel
theorem em232_136 : decode prog_14_method_39_code 136 = .ok (.goto 22, 3) := by decide +kernel
theorem em232_139 : decode prog_14_method_39_code 139 = .ok (.iload 5, 2) := by decide +kernel
theorem em232_141 : decode prog_14_method_39_code 141 = .ok (.iconst 4, 1) := by decide +kernel
theorem em232_142 : decode prog_14_method_39_code 142 = .ok (.if_icmp .ne 11, 3) := by decide +kernel
theorem em232_145 : decode prog_14_method_39_code 145 = .ok (.iload 6, 2) := by decide +kernel
theorem em232_147 : decode prog_14_method_39_code 147 = .ok (.iload 7, 2) := by decide +kernel
theorem em232_149 : decode prog_14_method_39_code 149 = .ok (.imul, 1) := by decide +kernel
theorem em232_150 : decode prog_14_method_39_code 150 = .ok (.goto 8, 3) := by decide +kernel
theorem em232_153 : decode prog_14_method_39_code 153 = .ok (.iload 6, 2) := by decide +kernel
theorem em232_155 : decode prog_14_method_39_code 155 = .ok (.iload 7, 2) := by decide +kernel
theorem em232_157 : decode prog_14_method_39_code 157 = .ok (.idiv, 1) := by decide +kernel
theorem em232_158 : decode prog_14_method_39_code 158 = .ok (.iastore, 1) := by decide +kernel
theorem em232_159 : decode prog_14_method_39_code 159 = .ok (.iinc 4 1, 3) := by decide +kernel
theorem em232_162 : decode prog_14_method_39_code 162 = .ok (.goto (-157), 3) := by decide +kernel
theorem em232_165 : decode prog_14_method_39_code 165 = .ok (.aload_n 0, 1) := by decide +kernel
theorem em232_166 : decode prog_14_method_39_code 166 = .ok (.getfield 110, 3) := by decide +kernel
theorem em232_169 : decode prog_14_method_39_code 169 = .ok (.iconst 0, 1) := by decide +kernel
theorem em232_170 : decode prog_14_method_39_code 170 = .ok (.iaload, 1) := by decide +kernel
theorem em232_171 : decode prog_14_method_39_code 171 = .ok (.ireturn, 1) := by decide +kernel
set_option maxRecDepth 10000 in
set_option maxHeartbeats 4000000 in
theorem hM_264 : zOKx 264 := by
  intro d hc as I q h hq
  have h : hpr_264 (d + 1) as I := h
  obtain ⟨hd, a, b, rfl, hpre⟩ := h
  cases (show some _ = some q from hq)
  obtain ⟨h, hh, hg1, hg2, hg3, hg4, hg5⟩ := hpre
  have loop : ∀ (n : Nat) (top : Int32) (c : Int32) (ht : 0 ≤ top.toInt) (hc1 : a.toInt ≤ c.toInt) (hc2 : c.toInt ≤ b.toInt) (hz : zpx (zVs I) a.toInt.toNat (c.toInt - a.toInt).toNat top.toInt.toNat), (b.toInt - c.toInt).toNat = n → zAt zG0 PZ zbd zpre zpost (d, (zbd 264).1, (zbd 264).2) prog_14_method_39_code "CapitalCaseModel" (zRet prog_14_method_39_code (some .int) (zbd 264) (hpost 264 [.inr (.inl (some 75)), .inl a, .inl b] I)) 5 [some (.inr (.inl (some 75))), some (.inl a), some (.inl b), some (.inl top), some (.inl c), none, none, none] [] I (0, 0) := by
    intro n
    induction n using Nat.strongRecOn with
    | ind n ih =>
      intro top c ht hc1 hc2 hz hn
      refine hA_iload (zs_iload em232_5) rfl ?_
      refine hA_iload (zs_iload_n em232_7) rfl ?_
      refine hA_icmp (zs_icmpge em232_8 (t := 165) (by decide)) (fun (c8 : b.toInt ≤ c.toInt) => ?_) (fun (c8 : ¬ b.toInt ≤ c.toInt) => ?_)
      · refine hA_aload (zs_aload_n em232_165) rfl ?_
        refine hA_getf2 (r := 106) (zs_getf (T := TX12) (M := 70) (ci := 12) (j := 57) em232_166 rfl inX12 (by decide) wd_1329 ((congrFun xo_12 110).trans rfl)) ⟨_, rfl, rfl⟩ ?_
        refine hA_const (k := 0) (zs_iconst (v := 0) em232_169 (by decide +kernel)) (by decide +kernel) (fun z169 hz169 => ?_)
        refine hA_ialdH (kd := 106) (len := 400) (zs_iald em232_170) ⟨rfl, rfl, rfl⟩ (by omega) (by show _ < ((400 : Nat) : Int); omega) (fun z170 hz170 => ?_)
        refine hA_ireturn ⟨rfl, em232_171⟩ ⟨Nat.le_refl _, Nat.le_refl _⟩ ?_
        intro a' b' he
        cases he
        exact ⟨_, rfl, rfl⟩
      · obtain ⟨hst1, hst2, hst3⟩ := tStep (by omega) hc1 (by omega) hg5 ht hz
        have hle := zpx_le hz
        refine hA_aload (zs_aload_n em232_11) rfl ?_
        refine hA_getf2 (r := 101) (zs_getf (T := TX12) (M := 70) (ci := 12) (j := 50) em232_12 rfl inX12 (by decide) wd_1322 ((congrFun xo_12 95).trans rfl)) ⟨_, rfl, rfl⟩ ?_
        refine hA_iload (zs_iload em232_15) rfl ?_
        refine hA_iald (kd := 101) (len := 840) (zs_iald em232_17) ⟨rfl, rfl, rfl⟩ (by omega) (by show _ < ((840 : Nat) : Int); omega) (fun z17 hz17 => ?_)
        refine hA_istore (L' := [some (.inr (.inl (some 75))), some (.inl a), some (.inl b), some (.inl top), some (.inl c), some (.inl z17), none, none]) (zs_istore em232_18) ⟨Nat.le_of_ble_eq_true rfl, rfl⟩ rfl ?_
        refine hA_iload (zs_iload em232_20) rfl ?_
        refine hA_const (k := 2) (zs_iconst (v := 2) em232_22 (by decide +kernel)) (by decide +kernel) (fun z22 hz22 => ?_)
        refine hA_icmp (zs_icmpge em232_23 (t := 65) (by decide)) (fun (c23 : z22.toInt ≤ z17.toInt) => ?_) (fun (c23 : ¬ z22.toInt ≤ z17.toInt) => ?_)
        · refine hA_iinc (c := (-1)) (zs_iinc (k := (-1)) em232_65 (by decide +kernel)) (by decide +kernel) rfl ⟨Nat.le_of_ble_eq_true rfl, rfl⟩ (by omega) (by omega) (fun z65 hz65 => ?_)
          show zAt _ _ _ _ _ _ _ _ _ _ [some (.inr (.inl (some 75))), some (.inl a), some (.inl b), some (.inl z65), some (.inl c), some (.inl z17), none, none] _ _ _
          refine hA_aload (zs_aload_n em232_68) rfl ?_
          refine hA_getf2 (r := 106) (zs_getf (T := TX12) (M := 70) (ci := 12) (j := 57) em232_69 rfl inX12 (by decide) wd_1329 ((congrFun xo_12 110).trans rfl)) ⟨_, rfl, rfl⟩ ?_
          refine hA_iload (zs_iload_n em232_72) rfl ?_
          refine hA_const (k := 1) (zs_iconst (v := 1) em232_73 (by decide +kernel)) (by decide +kernel) (fun z73 hz73 => ?_)
          refine hA_sub (zs_isub em232_74) (by omega) (by omega) (fun z74 hz74 => ?_)
          refine hA_ialdH (kd := 106) (len := 400) (zs_iald em232_75) ⟨rfl, rfl, rfl⟩ (by omega) (by show _ < ((400 : Nat) : Int); omega) (fun z75 hz75 => ?_)
          refine hA_istore (L' := [some (.inr (.inl (some 75))), some (.inl a), some (.inl b), some (.inl z65), some (.inl c), some (.inl z17), some (.inl z75), none]) (zs_istore em232_76) ⟨Nat.le_of_ble_eq_true rfl, rfl⟩ rfl ?_
          refine hA_aload (zs_aload_n em232_78) rfl ?_
          refine hA_getf2 (r := 106) (zs_getf (T := TX12) (M := 70) (ci := 12) (j := 57) em232_79 rfl inX12 (by decide) wd_1329 ((congrFun xo_12 110).trans rfl)) ⟨_, rfl, rfl⟩ ?_
          refine hA_iload (zs_iload_n em232_82) rfl ?_
          refine hA_ialdH (kd := 106) (len := 400) (zs_iald em232_83) ⟨rfl, rfl, rfl⟩ (by omega) (by show _ < ((400 : Nat) : Int); omega) (fun z83 hz83 => ?_)
          refine hA_istore (L' := [some (.inr (.inl (some 75))), some (.inl a), some (.inl b), some (.inl z65), some (.inl c), some (.inl z17), some (.inl z75), some (.inl z83)]) (zs_istore em232_84) ⟨Nat.le_of_ble_eq_true rfl, rfl⟩ rfl ?_
          refine hA_iload (zs_iload em232_86) rfl ?_
          refine hA_const (k := 5) (zs_iconst (v := 5) em232_88 (by decide +kernel)) (by decide +kernel) (fun z88 hz88 => ?_)
          refine hA_icmp (zs_icmpne em232_89 (t := 104) (by decide)) (fun (c89 : ¬ z17.toInt = z88.toInt) => ?_) (fun (c89 : ¬ ¬ z17.toInt = z88.toInt) => ?_)
          · refine hA_aload (zs_aload_n em232_104) rfl ?_
            refine hA_getf2 (r := 106) (zs_getf (T := TX12) (M := 70) (ci := 12) (j := 57) em232_105 rfl inX12 (by decide) wd_1329 ((congrFun xo_12 110).trans rfl)) ⟨_, rfl, rfl⟩ ?_
            refine hA_iload (zs_iload_n em232_108) rfl ?_
            refine hA_const (k := 1) (zs_iconst (v := 1) em232_109 (by decide +kernel)) (by decide +kernel) (fun z109 hz109 => ?_)
            refine hA_sub (zs_isub em232_110) (by omega) (by omega) (fun z110 hz110 => ?_)
            refine hA_iload (zs_iload em232_111) rfl ?_
            refine hA_const (k := 2) (zs_iconst (v := 2) em232_113 (by decide +kernel)) (by decide +kernel) (fun z113 hz113 => ?_)
            refine hA_icmp (zs_icmpne em232_114 (t := 125) (by decide)) (fun (c114 : ¬ z17.toInt = z113.toInt) => ?_) (fun (c114 : ¬ ¬ z17.toInt = z113.toInt) => ?_)
            · refine hA_iload (zs_iload em232_125) rfl ?_
              refine hA_const (k := 3) (zs_iconst (v := 3) em232_127 (by decide +kernel)) (by decide +kernel) (fun z127 hz127 => ?_)
              refine hA_icmp (zs_icmpne em232_128 (t := 139) (by decide)) (fun (c128 : ¬ z17.toInt = z127.toInt) => ?_) (fun (c128 : ¬ ¬ z17.toInt = z127.toInt) => ?_)
              · refine hA_iload (zs_iload em232_139) rfl ?_
                refine hA_const (k := 4) (zs_iconst (v := 4) em232_141 (by decide +kernel)) (by decide +kernel) (fun z141 hz141 => ?_)
                refine hA_icmp (zs_icmpne em232_142 (t := 153) (by decide)) (fun (c142 : ¬ z17.toInt = z141.toInt) => ?_) (fun (c142 : ¬ ¬ z17.toInt = z141.toInt) => ?_)
                · refine hA_iload (zs_iload em232_153) rfl ?_
                  refine hA_iload (zs_iload em232_155) rfl ?_
                  refine hA_div (zs_idiv em232_157) (by omega) (fun z157 => ?_)
                  refine hA_iastH (kd := 106) (len := 400) (zs_iast zInj0 em232_158) ⟨rfl, rfl, rfl⟩ (by omega) (by show _ < ((400 : Nat) : Int); omega) (eno rfl) ?_
                  refine hA_iinc (c := 1) (zs_iinc (k := 1) em232_159 (by decide +kernel)) (by decide +kernel) rfl ⟨Nat.le_of_ble_eq_true rfl, rfl⟩ (by omega) (by omega) (fun z159 hz159 => ?_)
                  show zAt _ _ _ _ _ _ _ _ _ _ [some (.inr (.inl (some 75))), some (.inl a), some (.inl b), some (.inl z65), some (.inl z159), some (.inl z17), some (.inl z75), some (.inl z83)] _ _ _
                  refine hA_goto (zs_goto em232_162 (t := 5) (by decide)) ?_
                  refine hA_fg (L' := [some (.inr (.inl (some 75))), some (.inl a), some (.inl b), some (.inl z65), some (.inl z159), none, none, none]) (by repeat (first | exact trivial | refine And.intro rfl ?_)) ?_
                  exact ih _ (by omega) z65 z159 (by omega) (by omega) (by omega) (by rw [show z159.toInt = c.toInt + 1 by omega, show z65.toInt = top.toInt - 1 by omega]; exact hst3 (by omega)) rfl
                · refine hA_iload (zs_iload em232_145) rfl ?_
                  refine hA_iload (zs_iload em232_147) rfl ?_
                  refine hA_bin (zs_imul em232_149) (fun z149 => ?_)
                  refine hA_goto (zs_goto em232_150 (t := 158) (by decide)) ?_
                  refine hA_iastH (kd := 106) (len := 400) (zs_iast zInj0 em232_158) ⟨rfl, rfl, rfl⟩ (by omega) (by show _ < ((400 : Nat) : Int); omega) (eno rfl) ?_
                  refine hA_iinc (c := 1) (zs_iinc (k := 1) em232_159 (by decide +kernel)) (by decide +kernel) rfl ⟨Nat.le_of_ble_eq_true rfl, rfl⟩ (by omega) (by omega) (fun z159' hz159' => ?_)
                  show zAt _ _ _ _ _ _ _ _ _ _ [some (.inr (.inl (some 75))), some (.inl a), some (.inl b), some (.inl z65), some (.inl z159'), some (.inl z17), some (.inl z75), some (.inl z83)] _ _ _
                  refine hA_goto (zs_goto em232_162 (t := 5) (by decide)) ?_
                  refine hA_fg (L' := [some (.inr (.inl (some 75))), some (.inl a), some (.inl b), some (.inl z65), some (.inl z159'), none, none, none]) (by repeat (first | exact trivial | refine And.intro rfl ?_)) ?_
                  exact ih _ (by omega) z65 z159' (by omega) (by omega) (by omega) (by rw [show z159'.toInt = c.toInt + 1 by omega, show z65.toInt = top.toInt - 1 by omega]; exact hst3 (by omega)) rfl
              · refine hA_iload (zs_iload em232_131) rfl ?_
                refine hA_iload (zs_iload em232_133) rfl ?_
                refine hA_bin (zs_isub em232_135) (fun z135 => ?_)
                refine hA_goto (zs_goto em232_136 (t := 158) (by decide)) ?_
                refine hA_iastH (kd := 106) (len := 400) (zs_iast zInj0 em232_158) ⟨rfl, rfl, rfl⟩ (by omega) (by show _ < ((400 : Nat) : Int); omega) (eno rfl) ?_
                refine hA_iinc (c := 1) (zs_iinc (k := 1) em232_159 (by decide +kernel)) (by decide +kernel) rfl ⟨Nat.le_of_ble_eq_true rfl, rfl⟩ (by omega) (by omega) (fun z159'' hz159'' => ?_)
                show zAt _ _ _ _ _ _ _ _ _ _ [some (.inr (.inl (some 75))), some (.inl a), some (.inl b), some (.inl z65), some (.inl z159''), some (.inl z17), some (.inl z75), some (.inl z83)] _ _ _
                refine hA_goto (zs_goto em232_162 (t := 5) (by decide)) ?_
                refine hA_fg (L' := [some (.inr (.inl (some 75))), some (.inl a), some (.inl b), some (.inl z65), some (.inl z159''), none, none, none]) (by repeat (first | exact trivial | refine And.intro rfl ?_)) ?_
                exact ih _ (by omega) z65 z159'' (by omega) (by omega) (by omega) (by rw [show z159''.toInt = c.toInt + 1 by omega, show z65.toInt = top.toInt - 1 by omega]; exact hst3 (by omega)) rfl
            · refine hA_iload (zs_iload em232_117) rfl ?_
              refine hA_iload (zs_iload em232_119) rfl ?_
              refine hA_bin (zs_iadd em232_121) (fun z121 => ?_)
              refine hA_goto (zs_goto em232_122 (t := 158) (by decide)) ?_
              refine hA_iastH (kd := 106) (len := 400) (zs_iast zInj0 em232_158) ⟨rfl, rfl, rfl⟩ (by omega) (by show _ < ((400 : Nat) : Int); omega) (eno rfl) ?_
              refine hA_iinc (c := 1) (zs_iinc (k := 1) em232_159 (by decide +kernel)) (by decide +kernel) rfl ⟨Nat.le_of_ble_eq_true rfl, rfl⟩ (by omega) (by omega) (fun z159_3 hz159_3 => ?_)
              show zAt _ _ _ _ _ _ _ _ _ _ [some (.inr (.inl (some 75))), some (.inl a), some (.inl b), some (.inl z65), some (.inl z159_3), some (.inl z17), some (.inl z75), some (.inl z83)] _ _ _
              refine hA_goto (zs_goto em232_162 (t := 5) (by decide)) ?_
              refine hA_fg (L' := [some (.inr (.inl (some 75))), some (.inl a), some (.inl b), some (.inl z65), some (.inl z159_3), none, none, none]) (by repeat (first | exact trivial | refine And.intro rfl ?_)) ?_
              exact ih _ (by omega) z65 z159_3 (by omega) (by omega) (by omega) (by rw [show z159_3.toInt = c.toInt + 1 by omega, show z65.toInt = top.toInt - 1 by omega]; exact hst3 (by omega)) rfl
          · refine hA_iload (zs_iload em232_92) rfl ?_
            refine hA_if (zs_ifne em232_94 (t := 104) (by decide)) (fun (c94 : ¬ z83.toInt = 0) => ?_) (fun (c94 : ¬ ¬ z83.toInt = 0) => ?_)
            · refine hA_aload (zs_aload_n em232_104) rfl ?_
              refine hA_getf2 (r := 106) (zs_getf (T := TX12) (M := 70) (ci := 12) (j := 57) em232_105 rfl inX12 (by decide) wd_1329 ((congrFun xo_12 110).trans rfl)) ⟨_, rfl, rfl⟩ ?_
              refine hA_iload (zs_iload_n em232_108) rfl ?_
              refine hA_const (k := 1) (zs_iconst (v := 1) em232_109 (by decide +kernel)) (by decide +kernel) (fun z109' hz109' => ?_)
              refine hA_sub (zs_isub em232_110) (by omega) (by omega) (fun z110' hz110' => ?_)
              refine hA_iload (zs_iload em232_111) rfl ?_
              refine hA_const (k := 2) (zs_iconst (v := 2) em232_113 (by decide +kernel)) (by decide +kernel) (fun z113' hz113' => ?_)
              refine hA_icmp (zs_icmpne em232_114 (t := 125) (by decide)) (fun (c114' : ¬ z17.toInt = z113'.toInt) => ?_) (fun (c114' : ¬ ¬ z17.toInt = z113'.toInt) => ?_)
              · refine hA_iload (zs_iload em232_125) rfl ?_
                refine hA_const (k := 3) (zs_iconst (v := 3) em232_127 (by decide +kernel)) (by decide +kernel) (fun z127' hz127' => ?_)
                refine hA_icmp (zs_icmpne em232_128 (t := 139) (by decide)) (fun (c128' : ¬ z17.toInt = z127'.toInt) => ?_) (fun (c128' : ¬ ¬ z17.toInt = z127'.toInt) => ?_)
                · refine hA_iload (zs_iload em232_139) rfl ?_
                  refine hA_const (k := 4) (zs_iconst (v := 4) em232_141 (by decide +kernel)) (by decide +kernel) (fun z141' hz141' => ?_)
                  refine hA_icmp (zs_icmpne em232_142 (t := 153) (by decide)) (fun (c142' : ¬ z17.toInt = z141'.toInt) => ?_) (fun (c142' : ¬ ¬ z17.toInt = z141'.toInt) => ?_)
                  · refine hA_iload (zs_iload em232_153) rfl ?_
                    refine hA_iload (zs_iload em232_155) rfl ?_
                    refine hA_div (zs_idiv em232_157) (by omega) (fun z157' => ?_)
                    refine hA_iastH (kd := 106) (len := 400) (zs_iast zInj0 em232_158) ⟨rfl, rfl, rfl⟩ (by omega) (by show _ < ((400 : Nat) : Int); omega) (eno rfl) ?_
                    refine hA_iinc (c := 1) (zs_iinc (k := 1) em232_159 (by decide +kernel)) (by decide +kernel) rfl ⟨Nat.le_of_ble_eq_true rfl, rfl⟩ (by omega) (by omega) (fun z159_4 hz159_4 => ?_)
                    show zAt _ _ _ _ _ _ _ _ _ _ [some (.inr (.inl (some 75))), some (.inl a), some (.inl b), some (.inl z65), some (.inl z159_4), some (.inl z17), some (.inl z75), some (.inl z83)] _ _ _
                    refine hA_goto (zs_goto em232_162 (t := 5) (by decide)) ?_
                    refine hA_fg (L' := [some (.inr (.inl (some 75))), some (.inl a), some (.inl b), some (.inl z65), some (.inl z159_4), none, none, none]) (by repeat (first | exact trivial | refine And.intro rfl ?_)) ?_
                    exact ih _ (by omega) z65 z159_4 (by omega) (by omega) (by omega) (by rw [show z159_4.toInt = c.toInt + 1 by omega, show z65.toInt = top.toInt - 1 by omega]; exact hst3 (by omega)) rfl
                  · refine hA_iload (zs_iload em232_145) rfl ?_
                    refine hA_iload (zs_iload em232_147) rfl ?_
                    refine hA_bin (zs_imul em232_149) (fun z149' => ?_)
                    refine hA_goto (zs_goto em232_150 (t := 158) (by decide)) ?_
                    refine hA_iastH (kd := 106) (len := 400) (zs_iast zInj0 em232_158) ⟨rfl, rfl, rfl⟩ (by omega) (by show _ < ((400 : Nat) : Int); omega) (eno rfl) ?_
                    refine hA_iinc (c := 1) (zs_iinc (k := 1) em232_159 (by decide +kernel)) (by decide +kernel) rfl ⟨Nat.le_of_ble_eq_true rfl, rfl⟩ (by omega) (by omega) (fun z159_5 hz159_5 => ?_)
                    show zAt _ _ _ _ _ _ _ _ _ _ [some (.inr (.inl (some 75))), some (.inl a), some (.inl b), some (.inl z65), some (.inl z159_5), some (.inl z17), some (.inl z75), some (.inl z83)] _ _ _
                    refine hA_goto (zs_goto em232_162 (t := 5) (by decide)) ?_
                    refine hA_fg (L' := [some (.inr (.inl (some 75))), some (.inl a), some (.inl b), some (.inl z65), some (.inl z159_5), none, none, none]) (by repeat (first | exact trivial | refine And.intro rfl ?_)) ?_
                    exact ih _ (by omega) z65 z159_5 (by omega) (by omega) (by omega) (by rw [show z159_5.toInt = c.toInt + 1 by omega, show z65.toInt = top.toInt - 1 by omega]; exact hst3 (by omega)) rfl
                · refine hA_iload (zs_iload em232_131) rfl ?_
                  refine hA_iload (zs_iload em232_133) rfl ?_
                  refine hA_bin (zs_isub em232_135) (fun z135' => ?_)
                  refine hA_goto (zs_goto em232_136 (t := 158) (by decide)) ?_
                  refine hA_iastH (kd := 106) (len := 400) (zs_iast zInj0 em232_158) ⟨rfl, rfl, rfl⟩ (by omega) (by show _ < ((400 : Nat) : Int); omega) (eno rfl) ?_
                  refine hA_iinc (c := 1) (zs_iinc (k := 1) em232_159 (by decide +kernel)) (by decide +kernel) rfl ⟨Nat.le_of_ble_eq_true rfl, rfl⟩ (by omega) (by omega) (fun z159_6 hz159_6 => ?_)
                  show zAt _ _ _ _ _ _ _ _ _ _ [some (.inr (.inl (some 75))), some (.inl a), some (.inl b), some (.inl z65), some (.inl z159_6), some (.inl z17), some (.inl z75), some (.inl z83)] _ _ _
                  refine hA_goto (zs_goto em232_162 (t := 5) (by decide)) ?_
                  refine hA_fg (L' := [some (.inr (.inl (some 75))), some (.inl a), some (.inl b), some (.inl z65), some (.inl z159_6), none, none, none]) (by repeat (first | exact trivial | refine And.intro rfl ?_)) ?_
                  exact ih _ (by omega) z65 z159_6 (by omega) (by omega) (by omega) (by rw [show z159_6.toInt = c.toInt + 1 by omega, show z65.toInt = top.toInt - 1 by omega]; exact hst3 (by omega)) rfl
              · refine hA_iload (zs_iload em232_117) rfl ?_
                refine hA_iload (zs_iload em232_119) rfl ?_
                refine hA_bin (zs_iadd em232_121) (fun z121' => ?_)
                refine hA_goto (zs_goto em232_122 (t := 158) (by decide)) ?_
                refine hA_iastH (kd := 106) (len := 400) (zs_iast zInj0 em232_158) ⟨rfl, rfl, rfl⟩ (by omega) (by show _ < ((400 : Nat) : Int); omega) (eno rfl) ?_
                refine hA_iinc (c := 1) (zs_iinc (k := 1) em232_159 (by decide +kernel)) (by decide +kernel) rfl ⟨Nat.le_of_ble_eq_true rfl, rfl⟩ (by omega) (by omega) (fun z159_7 hz159_7 => ?_)
                show zAt _ _ _ _ _ _ _ _ _ _ [some (.inr (.inl (some 75))), some (.inl a), some (.inl b), some (.inl z65), some (.inl z159_7), some (.inl z17), some (.inl z75), some (.inl z83)] _ _ _
                refine hA_goto (zs_goto em232_162 (t := 5) (by decide)) ?_
                refine hA_fg (L' := [some (.inr (.inl (some 75))), some (.inl a), some (.inl b), some (.inl z65), some (.inl z159_7), none, none, none]) (by repeat (first | exact trivial | refine And.intro rfl ?_)) ?_
                exact ih _ (by omega) z65 z159_7 (by omega) (by omega) (by omega) (by rw [show z159_7.toInt = c.toInt + 1 by omega, show z65.toInt = top.toInt - 1 by omega]; exact hst3 (by omega)) rfl
            · refine hA_aload (zs_aload_n em232_97) rfl ?_
              refine hA_const (k := 1) (zs_iconst (v := 1) em232_98 (by decide +kernel)) (by decide +kernel) (fun z98 hz98 => ?_)
              refine hA_puti1 (q := (0, 1)) (zs_puti zInj0 (T := TX12) (M := 70) (ty := tyX12) (ci := 12) (j := 58) (kd := 1) em232_99 rfl inX12 tyX12_ok nmX12 (by decide) wd_1330 (Or.inr ⟨rfl, rfl⟩) rfl ((congrFun xo_12 320).trans rfl)) ⟨_, rfl, rfl⟩ rfl (fun _ => ⟨by omega, by omega⟩) (by show (0 : Int) ≤ _; omega) (by show _ ≤ (1 : Int); omega) ?_
              refine hA_const (k := 0) (zs_iconst (v := 0) em232_102 (by decide +kernel)) (by decide +kernel) (fun z102 hz102 => ?_)
              refine hA_ireturn ⟨rfl, em232_103⟩ ⟨Nat.le_refl _, Nat.le_refl _⟩ ?_
              intro a' b' he
              cases he
              exact ⟨_, rfl, rfl⟩
        · refine hA_aload (zs_aload_n em232_26) rfl ?_
          refine hA_getf2 (r := 106) (zs_getf (T := TX12) (M := 70) (ci := 12) (j := 57) em232_27 rfl inX12 (by decide) wd_1329 ((congrFun xo_12 110).trans rfl)) ⟨_, rfl, rfl⟩ ?_
          refine hA_iload (zs_iload_n em232_30) rfl ?_
          refine hA_iload (zs_iload em232_31) rfl ?_
          refine hA_if (zs_ifne em232_33 (t := 46) (by decide)) (fun (c33 : ¬ z17.toInt = 0) => ?_) (fun (c33 : ¬ ¬ z17.toInt = 0) => ?_)
          · refine hA_aload (zs_aload_n em232_46) rfl ?_
            refine hA_getf2 (r := 105) (zs_getf (T := TX12) (M := 70) (ci := 12) (j := 56) em232_47 rfl inX12 (by decide) wd_1328 ((congrFun xo_12 107).trans rfl)) ⟨_, rfl, rfl⟩ ?_
            refine hA_aload (zs_aload_n em232_50) rfl ?_
            refine hA_getf2 (r := 102) (zs_getf (T := TX12) (M := 70) (ci := 12) (j := 51) em232_51 rfl inX12 (by decide) wd_1323 ((congrFun xo_12 98).trans rfl)) ⟨_, rfl, rfl⟩ ?_
            refine hA_iload (zs_iload em232_54) rfl ?_
            refine hA_iald (kd := 102) (len := 840) (zs_iald em232_56) ⟨rfl, rfl, rfl⟩ (by omega) (by show _ < ((840 : Nat) : Int); omega) (fun z56 hz56 => ?_)
            refine hA_ialdH (kd := 105) (len := 9) (zs_iald em232_57) ⟨rfl, rfl, rfl⟩ (by omega) (by show _ < ((9 : Nat) : Int); omega) (fun z57 hz57 => ?_)
            refine hA_iastH (kd := 106) (len := 400) (zs_iast zInj0 em232_58) ⟨rfl, rfl, rfl⟩ (by omega) (by show _ < ((400 : Nat) : Int); omega) (eno rfl) ?_
            refine hA_iinc (c := 1) (zs_iinc (k := 1) em232_59 (by decide +kernel)) (by decide +kernel) rfl ⟨Nat.le_of_ble_eq_true rfl, rfl⟩ (by omega) (by omega) (fun z59 hz59 => ?_)
            show zAt _ _ _ _ _ _ _ _ _ _ [some (.inr (.inl (some 75))), some (.inl a), some (.inl b), some (.inl z59), some (.inl c), some (.inl z17), none, none] _ _ _
            refine hA_goto (zs_goto em232_62 (t := 159) (by decide)) ?_
            refine hA_iinc (c := 1) (zs_iinc (k := 1) em232_159 (by decide +kernel)) (by decide +kernel) rfl ⟨Nat.le_of_ble_eq_true rfl, rfl⟩ (by omega) (by omega) (fun z159_8 hz159_8 => ?_)
            show zAt _ _ _ _ _ _ _ _ _ _ [some (.inr (.inl (some 75))), some (.inl a), some (.inl b), some (.inl z59), some (.inl z159_8), some (.inl z17), none, none] _ _ _
            refine hA_goto (zs_goto em232_162 (t := 5) (by decide)) ?_
            refine hA_fg (L' := [some (.inr (.inl (some 75))), some (.inl a), some (.inl b), some (.inl z59), some (.inl z159_8), none, none, none]) (by repeat (first | exact trivial | refine And.intro rfl ?_)) ?_
            exact ih _ (by omega) z59 z159_8 (by omega) (by omega) (by omega) (by rw [show z159_8.toInt = c.toInt + 1 by omega, show z59.toInt = top.toInt + 1 by omega]; exact hst2 (by omega)) rfl
          · refine hA_aload (zs_aload_n em232_36) rfl ?_
            refine hA_getf2 (r := 102) (zs_getf (T := TX12) (M := 70) (ci := 12) (j := 51) em232_37 rfl inX12 (by decide) wd_1323 ((congrFun xo_12 98).trans rfl)) ⟨_, rfl, rfl⟩ ?_
            refine hA_iload (zs_iload em232_40) rfl ?_
            refine hA_iald (kd := 102) (len := 840) (zs_iald em232_42) ⟨rfl, rfl, rfl⟩ (by omega) (by show _ < ((840 : Nat) : Int); omega) (fun z42 hz42 => ?_)
            refine hA_goto (zs_goto em232_43 (t := 58) (by decide)) ?_
            refine hA_iastH (kd := 106) (len := 400) (zs_iast zInj0 em232_58) ⟨rfl, rfl, rfl⟩ (by omega) (by show _ < ((400 : Nat) : Int); omega) (eno rfl) ?_
            refine hA_iinc (c := 1) (zs_iinc (k := 1) em232_59 (by decide +kernel)) (by decide +kernel) rfl ⟨Nat.le_of_ble_eq_true rfl, rfl⟩ (by omega) (by omega) (fun z59' hz59' => ?_)
            show zAt _ _ _ _ _ _ _ _ _ _ [some (.inr (.inl (some 75))), some (.inl a), some (.inl b), some (.inl z59'), some (.inl c), some (.inl z17), none, none] _ _ _
            refine hA_goto (zs_goto em232_62 (t := 159) (by decide)) ?_
            refine hA_iinc (c := 1) (zs_iinc (k := 1) em232_159 (by decide +kernel)) (by decide +kernel) rfl ⟨Nat.le_of_ble_eq_true rfl, rfl⟩ (by omega) (by omega) (fun z159_9 hz159_9 => ?_)
            show zAt _ _ _ _ _ _ _ _ _ _ [some (.inr (.inl (some 75))), some (.inl a), some (.inl b), some (.inl z59'), some (.inl z159_9), some (.inl z17), none, none] _ _ _
            refine hA_goto (zs_goto em232_162 (t := 5) (by decide)) ?_
            refine hA_fg (L' := [some (.inr (.inl (some 75))), some (.inl a), some (.inl b), some (.inl z59'), some (.inl z159_9), none, none, none]) (by repeat (first | exact trivial | refine And.intro rfl ?_)) ?_
            exact ih _ (by omega) z59' z159_9 (by omega) (by omega) (by omega) (by rw [show z159_9.toInt = c.toInt + 1 by omega, show z59'.toInt = top.toInt + 1 by omega]; exact hst2 (by omega)) rfl
  refine hmet (L := [some (.inr (.inl (some 75))), some (.inl a), some (.inl b), none, none, none, none, none]) (by decide) (Nat.le_of_ble_eq_true rfl) hc rfl ?_
  refine hA_const (k := 0) (zs_iconst (v := 0) em232_0 (by decide +kernel)) (by decide +kernel) (fun z0 hz0 => ?_)
  refine hA_istore (L' := [some (.inr (.inl (some 75))), some (.inl a), some (.inl b), some (.inl z0), none, none, none, none]) (zs_istore_n em232_1) ⟨Nat.le_of_ble_eq_true rfl, rfl⟩ rfl ?_
  refine hA_iload (zs_iload_n em232_2) rfl ?_
  refine hA_istore (L' := [some (.inr (.inl (some 75))), some (.inl a), some (.inl b), some (.inl z0), some (.inl a), none, none, none]) (zs_istore em232_3) ⟨Nat.le_of_ble_eq_true rfl, rfl⟩ rfl ?_
  exact loop _ z0 a (by omega) (by omega) (by omega) (by rw [Int.sub_self, hz0]; exact rfl) rfl
theorem em159_0 : decode prog_14_method_58_code 0 = .ok (.iconst 4, 1) := by decide +kernel
theorem em159_1 : decode prog_14_method_58_code 1 = .ok (.aload_n 0, 1) := by decide +kernel
theorem em159_2 : decode prog_14_method_58_code 2 = .ok (.getfield 230, 3) := by decide +kernel
theorem em159_5 : decode prog_14_method_58_code 5 = .ok (.imul, 1) := by decide +kernel
theorem em159_6 : decode prog_14_method_58_code 6 = .ok (.iload_n 1, 1) := by decide +kernel
theorem em159_7 : decode prog_14_method_58_code 7 = .ok (.iadd, 1) := by decide +kernel
theorem em159_8 : decode prog_14_method_58_code 8 = .ok (.istore_n 3, 1) := by decide +kernel
theorem em159_9 : decode prog_14_method_58_code 9 = .ok (.aload_n 0, 1) := by decide +kernel
theorem em159_10 : decode prog_14_method_58_code 10 = .ok (.getfield 73, 3) := by decide +kernel
theorem em159_13 : decode prog_14_method_58_code 13 = .ok (.iload_n 3, 1) := by decide +kernel
theorem em159_14 : decode prog_14_method_58_code 14 = .ok (.iaload, 1) := by decide +kernel
theorem em159_15 : decode prog_14_method_58_code 15 = .ok (.aload_n 0, 1) := by decide +kernel
theorem em159_16 : decode prog_14_method_58_code 16 = .ok (.getfield 76, 3) := by decide +kernel
theorem em159_19 : decode prog_14_method_58_code 19 = .ok (.iload_n 3, 1) := by decide +kernel
theorem em159_20 : decode prog_14_method_58_code 20 = .ok (.iaload, 1) := by decide +kernel
theorem em159_21 : decode prog_14_method_58_code 21 = .ok (.if_icmp .ne 5, 3) := by decide +kernel
theorem em159_24 : decode prog_14_method_58_code 24 = .ok (.iload_n 2, 1) := by decide +kernel
theorem em159_25 : decode prog_14_method_58_code 25 = .ok (.ireturn, 1) := by decide +kernel
theorem em159_26 : decode prog_14_method_58_code 26 = .ok (.aload_n 0, 1) := by decide +kernel
theorem em159_27 : decode prog_14_method_58_code 27 = .ok (.iconst 0, 1) := by decide +kernel
theorem em159_28 : decode prog_14_method_58_code 28 = .ok (.putfield 320, 3) := by decide +kernel
theorem em159_31 : decode prog_14_method_58_code 31 = .ok (.aload_n 0, 1) := by decide +kernel
theorem em159_32 : decode prog_14_method_58_code 32 = .ok (.getfield 73, 3) := by decide +kernel
theorem em159_35 : decode prog_14_method_58_code 35 = .ok (.iload_n 3, 1) := by decide +kernel
theorem em159_36 : decode prog_14_method_58_code 36 = .ok (.iaload, 1) := by decide +kernel
theorem em159_37 : decode prog_14_method_58_code 37 = .ok (.istore 4, 2) := by decide +kernel
theorem em159_39 : decode prog_14_method_58_code 39 = .ok (.iload 4, 2) := by decide +kernel
theorem em159_41 : decode prog_14_method_58_code 41 = .ok (.aload_n 0, 1) := by decide +kernel
theorem em159_42 : decode prog_14_method_58_code 42 = .ok (.getfield 76, 3) := by decide +kernel
theorem em159_45 : decode prog_14_method_58_code 45 = .ok (.iload_n 3, 1) := by decide +kernel
theorem em159_46 : decode prog_14_method_58_code 46 = .ok (.iaload, 1) := by decide +kernel
theorem em159_47 : decode prog_14_method_58_code 47 = .ok (.if_icmp .ge 112, 3) := by decide +kernel
theorem em159_50 : decode prog_14_method_58_code 50 = .ok (.aload_n 0, 1) := by decide +kernel
theorem em159_51 : decode prog_14_method_58_code 51 = .ok (.getfield 79, 3) := by decide +kernel
theorem em159_54 : decode prog_14_method_58_code 54 = .ok (.iload 4, 2) := by decide +kernel
theorem em159_56 : decode prog_14_method_58_code 56 = .ok (.baload, 1) := by decide +kernel
theorem em159_57 : decode prog_14_method_58_code 57 = .ok (.ifCond .eq 62, 3) := by decide +kernel
theorem em159_60 : decode prog_14_method_58_code 60 = .ok (.aload_n 0, 1) := by decide +kernel
theorem em159_61 : decode prog_14_method_58_code 61 = .ok (.aload_n 0, 1) := by decide +kernel
theorem em159_62 : decode prog_14_method_58_code 62 = .ok (.getfield 83, 3) := by decide +kernel
theorem em159_65 : decode prog_14_method_58_code 65 = .ok (.iload 4, 2) := by decide +kernel
theorem em159_67 : decode prog_14_method_58_code 67 = .ok (.iaload, 1) := by decide +kernel
theorem em159_68 : decode prog_14_method_58_code 68 = .ok (.aload_n 0, 1) := by decide +kernel
theorem em159_69 : decode prog_14_method_58_code 69 = .ok (.getfield 86, 3) := by decide +kernel
theorem em159_72 : decode prog_14_method_58_code 72 = .ok (.iload 4, 2) := by decide +kernel
theorem em159_74 : decode prog_14_method_58_code 74 = .ok (.iaload, 1) := by decide +kernel
theorem em159_75 : decode prog_14_method_58_code 75 = .ok (.invokevirtual 350, 3) := by decide +kernel
theorem em159_78 : decode prog_14_method_58_code 78 = .ok (.istore 5, 2) := by decide +kernel
theorem em159_80 : decode prog_14_method_58_code 80 = .ok (.aload_n 0, 1) := by decide +kernel
theorem em159_81 : decode prog_14_method_58_code 81 = .ok (.aload_n 0, 1) := by decide +kernel
theorem em159_82 : decode prog_14_method_58_code 82 = .ok (.getfield 86, 3) := by decide +kernel
theorem em159_85 : decode prog_14_method_58_code 85 = .ok (.iload 4, 2) := by decide +kernel
theorem em159_87 : decode prog_14_method_58_code 87 = .ok (.iaload, 1) := by decide +kernel
theorem em159_88 : decode prog_14_method_58_code 88 = .ok (.aload_n 0, 1) := by decide +kernel
theorem em159_89 : decode prog_14_method_58_code 89 = .ok (.getfield 89, 3) := by decide +kernel
theorem em159_92 : decode prog_14_method_58_code 92 = .ok (.iload 4, 2) := by decide +kernel
theorem em159_94 : decode prog_14_method_58_code 94 = .ok (.iaload, 1) := by decide +kernel
theorem em159_95 : decode prog_14_method_58_code 95 = .ok (.invokevirtual 350, 3) := by decide +kernel
theorem em159_98 : decode prog_14_method_58_code 98 = .ok (.istore 6, 2) := by decide +kernel
theorem em159_100 : decode prog_14_method_58_code 100 = .ok (.aload_n 0, 1) := by decide +kernel
theorem em159_101 : decode prog_14_method_58_code 101 = .ok (.getfield 320, 3) := by decide +kernel
theorem em159_104 : decode prog_14_method_58_code 104 = .ok (.ifCond .eq 5, 3) := by decide +kernel
theorem em159_107 : decode prog_14_method_58_code 107 = .ok (.iconst 0, 1) := by decide +kernel
theorem em159_108 : decode prog_14_method_58_code 108 = .ok (.ireturn, 1) := by decide +kernel
theorem em159_109 : decode prog_14_method_58_code 109 = .ok (.iload 5, 2) := by decide +kernel
theorem em159_111 : decode prog_14_method_58_code 111 = .ok (.iload 6, 2) := by decide +kernel
theorem em159_113 : decode prog_14_method_58_code 113 = .ok (.if_icmp .lt 6, 3) := by decide +kernel
theorem em159_116 : decode prog_14_method_58_code 116 = .ok (.goto 37, 3) := by decide +kernel
theorem em159_119 : decode prog_14_method_58_code 119 = .ok (.aload_n 0, 1) := by decide +kernel
theorem em159_120 : decode prog_14_method_58_code 120 = .ok (.aload_n 0, 1) := by decide +kernel
theorem em159_121 : decode prog_14_method_58_code 121 = .ok (.getfield 89, 3) := by decide +kernel
theorem em159_124 : decode prog_14_method_58_code 124 = .ok (.iload 4, 2) := by decide +kernel
theorem em159_126 : decode prog_14_method_58_code 126 = .ok (.iaload, 1) := by decide +kernel
theorem em159_127 : decode prog_14_method_58_code 127 = .ok (.aload_n 0, 1) := by decide +kernel
theorem em159_128 : decode prog_14_method_58_code 128 = .ok (.getfield 92, 3) := by decide +kernel
theorem em159_131 : decode prog_14_method_58_code 131 = .ok (.iload 4, 2) := by decide +kernel
theorem em159_133 : decode prog_14_method_58_code 133 = .ok (.iaload, 1) := by decide +kernel
theorem em159_134 : decode prog_14_method_58_code 134 = .ok (.invokevirtual 350, 3) := by decide +kernel
theorem em159_137 : decode prog_14_method_58_code 137 = .ok (.istore 5, 2) := by decide +kernel
theorem em159_139 : decode prog_14_method_58_code 139 = .ok (.aload_n 0, 1) := by decide +kernel
theorem em159_140 : decode prog_14_method_58_code 140 = .ok (.getfield 320, 3) := by decide +kernel
theorem em159_143 : decode prog_14_method_58_code 143 = .ok (.ifCond .eq 7, 3) := by decide +kernel
theorem em159_146 : decode prog_14_method_58_code 146 = .ok (.iconst 0, 1) := by decide +kernel
theorem em159_147 : decode prog_14_method_58_code 147 = .ok (.goto 5, 3) := by decide +kernel
theorem em159_150 : decode prog_14_method_58_code 150 = .ok (.iload 5, 2) := by decide +kernel
theorem em159_152 : decode prog_14_method_58_code 152 = .ok (.ireturn, 1) := by decide +kernel
theorem em159_153 : decode prog_14_method_58_code 153 = .ok (.iinc 4 1, 3) := by decide +kernel
theorem em159_156 : decode prog_14_method_58_code 156 = .ok (.goto (-117), 3) := by decide +kernel
theorem em159_159 : decode prog_14_method_58_code 159 = .ok (.iconst 0, 1) := by decide +kernel
theorem em159_160 : decode prog_14_method_58_code 160 = .ok (.ireturn, 1) := by decide +kernel
set_option maxRecDepth 10000 in
set_option maxHeartbeats 4000000 in
theorem hM_185 : zOKh 185 zc_185 := by
  intro d hc as I q h hq
  obtain ⟨hd, ⟨_, _, rfl, rfl, ⟨_, _, rfl, ⟨x1, rfl, hx1, hx1b⟩, ⟨_, _, rfl, ⟨x2, rfl, hx2, hx2b⟩, rfl⟩⟩⟩, hF, hI⟩ := h
  have hd : 6 ≤ d + 1 := hd
  have hx1 : (0 : Int) ≤ x1.toInt := hx1
  have hx1b : x1.toInt ≤ (3 : Int) := hx1b
  have hx2 : ((-2147483648) : Int) ≤ x2.toInt := hx2
  have hx2b : x2.toInt ≤ (2147483647 : Int) := hx2b
  have hf22 : (0 : Int) ≤ zf I 22 ∧ zf I 22 ≤ (1 : Int) := hF _ List.mem_cons_self
  have hInv : zInv I := hI rfl
  cases (show some _ = some q from hq)
  have loop : ∀ (n : Nat) (at0 : Int32) (hat : at0.toInt = 4 * zf I 22 + x1.toInt) (b : Int32) (hb : zv I 94 at0.toInt ≤ b.toInt), (260 - b.toInt).toNat = n → zAt zG0 PZ zbd zpre zpost (d, (zbd 185).1, (zbd 185).2) prog_14_method_58_code "CapitalCaseModel" (zRet prog_14_method_58_code (some .int) (zbd 185) (fun r I' => aPost zInv zc_185 [.inr (.inl (some 75)), .inl x1, .inl x2] I r I')) 39 [some (.inr (.inl (some 75))), some (.inl x1), some (.inl x2), some (.inl at0), some (.inl b), none, none] [] I (0, 0) := by
    intro n
    induction n using Nat.strongRecOn with
    | ind n ih =>
      intro at0 hat b hb hn
      obtain ⟨hlv, hlf, hlb⟩ := lawB hInv (k := x1.toInt) (by omega) (by omega) hat
      refine hA_iload (zs_iload em159_39) rfl ?_
      refine hA_aload (zs_aload_n em159_41) rfl ?_
      refine hA_getf2 (r := 95) (zs_getf (T := TX12) (M := 70) (ci := 12) (j := 42) em159_42 rfl inX12 (by decide) wd_1314 ((congrFun xo_12 76).trans rfl)) ⟨_, rfl, rfl⟩ ?_
      refine hA_iload (zs_iload_n em159_45) rfl ?_
      refine hA_iald (kd := 95) (len := 8) (zs_iald em159_46) ⟨rfl, rfl, rfl⟩ (by omega) (by show _ < ((8 : Nat) : Int); omega) (fun z46 hz46 => ?_)
      refine hA_icmp (zs_icmpge em159_47 (t := 159) (by decide)) (fun (c47 : z46.toInt ≤ b.toInt) => ?_) (fun (c47 : ¬ z46.toInt ≤ b.toInt) => ?_)
      · refine hA_const (k := 0) (zs_iconst (v := 0) em159_159 (by decide +kernel)) (by decide +kernel) (fun z159 hz159 => ?_)
        refine hA_ireturn ⟨rfl, em159_160⟩ ⟨Nat.le_refl _, Nat.le_refl _⟩ ?_
        exact ⟨⟨_, List.mem_cons_self, ⟨_, rfl, an_lo _, an_hi _⟩, hCh_nil, (fun id hl hn => rfl), (fun _ h => absurd h List.not_mem_nil)⟩, (fun _ => hInv), (fun _ id hid => rfl)⟩
      · have hbr := hlb b.toInt hb (by omega)
        refine hA_aload (zs_aload_n em159_50) rfl ?_
        refine hA_getf2 (r := 96) (zs_getf (T := TX12) (M := 70) (ci := 12) (j := 44) em159_51 rfl inX12 (by decide) wd_1316 ((congrFun xo_12 79).trans rfl)) ⟨_, rfl, rfl⟩ ?_
        refine hA_iload (zs_iload em159_54) rfl ?_
        refine hA_bald (kd := 96) (len := 260) (zs_bald em159_56) ⟨rfl, rfl, rfl, Or.inr rfl⟩ (by omega) (by show _ < ((260 : Nat) : Int); omega) (fun z56 hz56 => ?_)
        refine hA_if (zs_ifeq em159_57 (t := 119) (by decide)) (fun (c57 : z56.toInt = 0) => ?_) (fun (c57 : ¬ z56.toInt = 0) => ?_)
        · refine hA_aload (zs_aload_n em159_119) rfl ?_
          refine hA_aload (zs_aload_n em159_120) rfl ?_
          refine hA_getf2 (r := 99) (zs_getf (T := TX12) (M := 70) (ci := 12) (j := 47) em159_121 rfl inX12 (by decide) wd_1319 ((congrFun xo_12 89).trans rfl)) ⟨_, rfl, rfl⟩ ?_
          refine hA_iload (zs_iload em159_124) rfl ?_
          refine hA_iald (kd := 99) (len := 260) (zs_iald em159_126) ⟨rfl, rfl, rfl⟩ (by omega) (by show _ < ((260 : Nat) : Int); omega) (fun z126 hz126 => ?_)
          refine hA_aload (zs_aload_n em159_127) rfl ?_
          refine hA_getf2 (r := 100) (zs_getf (T := TX12) (M := 70) (ci := 12) (j := 48) em159_128 rfl inX12 (by decide) wd_1320 ((congrFun xo_12 92).trans rfl)) ⟨_, rfl, rfl⟩ ?_
          refine hA_iload (zs_iload em159_131) rfl ?_
          refine hA_iald (kd := 100) (len := 260) (zs_iald em159_133) ⟨rfl, rfl, rfl⟩ (by omega) (by show _ < ((260 : Nat) : Int); omega) (fun z133 hz133 => ?_)
          refine hA_callV (as := [.inl z126, .inl z133]) (rest := []) (B' := (0, 0)) (zs_invV (T := TX12) em159_134 zl_264 rfl wd_1667 wd_1669 wd_81 ((congrFun xo_12 350).trans rfl) xm_232) rfl ⟨_, rfl⟩ (Nat.le_of_ble_eq_true rfl) rfl ⟨Nat.zero_le _, Nat.zero_le _⟩ (hpre_of rfl (show hpr_264 d [.inr (.inl (some 75)), .inl z126, .inl z133] I from ⟨by show 1 ≤ d; omega, z126, z133, rfl, ⟨420 * zf I 22, by omega, by rw [hz126, hz133]; exact hbr.2.2⟩⟩)) (fun r134 I134 hp134 => ?_)
          replace hp134 : hpo_264 _ _ _ _ := hpost_of rfl hp134
          replace hp134 := hp134 z126 z133 rfl
          obtain ⟨z134, rfl, rfl⟩ := hp134
          refine hA_istore (L' := [some (.inr (.inl (some 75))), some (.inl x1), some (.inl x2), some (.inl at0), some (.inl b), some (.inl z134), none]) (zs_istore em159_137) ⟨Nat.le_of_ble_eq_true rfl, rfl⟩ rfl ?_
          refine hA_aload (zs_aload_n em159_139) rfl ?_
          refine hA_getf1 (q := (0, 1)) (zs_getf (T := TX12) (M := 70) (ci := 12) (j := 58) em159_140 rfl inX12 (by decide) wd_1330 ((congrFun xo_12 320).trans rfl)) ⟨_, rfl, rfl⟩ rfl (fun z140 (hz140 : (0 : Int) ≤ z140.toInt) (hz140b : z140.toInt ≤ 1) => ?_)
          refine hA_if (zs_ifeq em159_143 (t := 150) (by decide)) (fun (c143 : z140.toInt = 0) => ?_) (fun (c143 : ¬ z140.toInt = 0) => ?_)
          · refine hA_iload (zs_iload em159_150) rfl ?_
            refine hA_ireturn ⟨rfl, em159_152⟩ ⟨Nat.le_refl _, Nat.le_refl _⟩ ?_
            exact ⟨⟨_, List.mem_cons_self, ⟨_, rfl, an_lo _, an_hi _⟩, hCh_nil, (fun id hl hn => rfl), (fun _ h => absurd h List.not_mem_nil)⟩, (fun _ => hInv), (fun _ id hid => rfl)⟩
          · refine hA_const (k := 0) (zs_iconst (v := 0) em159_146 (by decide +kernel)) (by decide +kernel) (fun z146 hz146 => ?_)
            refine hA_goto (zs_goto em159_147 (t := 152) (by decide)) ?_
            refine hA_ireturn ⟨rfl, em159_152⟩ ⟨Nat.le_refl _, Nat.le_refl _⟩ ?_
            exact ⟨⟨_, List.mem_cons_self, ⟨_, rfl, an_lo _, an_hi _⟩, hCh_nil, (fun id hl hn => rfl), (fun _ h => absurd h List.not_mem_nil)⟩, (fun _ => hInv), (fun _ id hid => rfl)⟩
        · refine hA_aload (zs_aload_n em159_60) rfl ?_
          refine hA_aload (zs_aload_n em159_61) rfl ?_
          refine hA_getf2 (r := 97) (zs_getf (T := TX12) (M := 70) (ci := 12) (j := 45) em159_62 rfl inX12 (by decide) wd_1317 ((congrFun xo_12 83).trans rfl)) ⟨_, rfl, rfl⟩ ?_
          refine hA_iload (zs_iload em159_65) rfl ?_
          refine hA_iald (kd := 97) (len := 260) (zs_iald em159_67) ⟨rfl, rfl, rfl⟩ (by omega) (by show _ < ((260 : Nat) : Int); omega) (fun z67 hz67 => ?_)
          refine hA_aload (zs_aload_n em159_68) rfl ?_
          refine hA_getf2 (r := 98) (zs_getf (T := TX12) (M := 70) (ci := 12) (j := 46) em159_69 rfl inX12 (by decide) wd_1318 ((congrFun xo_12 86).trans rfl)) ⟨_, rfl, rfl⟩ ?_
          refine hA_iload (zs_iload em159_72) rfl ?_
          refine hA_iald (kd := 98) (len := 260) (zs_iald em159_74) ⟨rfl, rfl, rfl⟩ (by omega) (by show _ < ((260 : Nat) : Int); omega) (fun z74 hz74 => ?_)
          refine hA_callV (as := [.inl z67, .inl z74]) (rest := []) (B' := (0, 0)) (zs_invV (T := TX12) em159_75 zl_264 rfl wd_1667 wd_1669 wd_81 ((congrFun xo_12 350).trans rfl) xm_232) rfl ⟨_, rfl⟩ (Nat.le_of_ble_eq_true rfl) rfl ⟨Nat.zero_le _, Nat.zero_le _⟩ (hpre_of rfl (show hpr_264 d [.inr (.inl (some 75)), .inl z67, .inl z74] I from ⟨by show 1 ≤ d; omega, z67, z74, rfl, ⟨420 * zf I 22, by omega, by rw [hz67, hz74]; exact (hbr.2.1 (by omega)).1⟩⟩)) (fun r75 I75 hp75 => ?_)
          replace hp75 : hpo_264 _ _ _ _ := hpost_of rfl hp75
          replace hp75 := hp75 z67 z74 rfl
          obtain ⟨z75, rfl, rfl⟩ := hp75
          refine hA_istore (L' := [some (.inr (.inl (some 75))), some (.inl x1), some (.inl x2), some (.inl at0), some (.inl b), some (.inl z75), none]) (zs_istore em159_78) ⟨Nat.le_of_ble_eq_true rfl, rfl⟩ rfl ?_
          refine hA_aload (zs_aload_n em159_80) rfl ?_
          refine hA_aload (zs_aload_n em159_81) rfl ?_
          refine hA_getf2 (r := 98) (zs_getf (T := TX12) (M := 70) (ci := 12) (j := 46) em159_82 rfl inX12 (by decide) wd_1318 ((congrFun xo_12 86).trans rfl)) ⟨_, rfl, rfl⟩ ?_
          refine hA_iload (zs_iload em159_85) rfl ?_
          refine hA_iald (kd := 98) (len := 260) (zs_iald em159_87) ⟨rfl, rfl, rfl⟩ (by omega) (by show _ < ((260 : Nat) : Int); omega) (fun z87 hz87 => ?_)
          refine hA_aload (zs_aload_n em159_88) rfl ?_
          refine hA_getf2 (r := 99) (zs_getf (T := TX12) (M := 70) (ci := 12) (j := 47) em159_89 rfl inX12 (by decide) wd_1319 ((congrFun xo_12 89).trans rfl)) ⟨_, rfl, rfl⟩ ?_
          refine hA_iload (zs_iload em159_92) rfl ?_
          refine hA_iald (kd := 99) (len := 260) (zs_iald em159_94) ⟨rfl, rfl, rfl⟩ (by omega) (by show _ < ((260 : Nat) : Int); omega) (fun z94 hz94 => ?_)
          refine hA_callV (as := [.inl z87, .inl z94]) (rest := []) (B' := (0, 0)) (zs_invV (T := TX12) em159_95 zl_264 rfl wd_1667 wd_1669 wd_81 ((congrFun xo_12 350).trans rfl) xm_232) rfl ⟨_, rfl⟩ (Nat.le_of_ble_eq_true rfl) rfl ⟨Nat.zero_le _, Nat.zero_le _⟩ (hpre_of rfl (show hpr_264 d [.inr (.inl (some 75)), .inl z87, .inl z94] I from ⟨by show 1 ≤ d; omega, z87, z94, rfl, ⟨420 * zf I 22, by omega, by rw [hz87, hz94]; exact (hbr.2.1 (by omega)).2⟩⟩)) (fun r95 I95 hp95 => ?_)
          replace hp95 : hpo_264 _ _ _ _ := hpost_of rfl hp95
          replace hp95 := hp95 z87 z94 rfl
          obtain ⟨z95, rfl, rfl⟩ := hp95
          refine hA_istore (L' := [some (.inr (.inl (some 75))), some (.inl x1), some (.inl x2), some (.inl at0), some (.inl b), some (.inl z75), some (.inl z95)]) (zs_istore em159_98) ⟨Nat.le_of_ble_eq_true rfl, rfl⟩ rfl ?_
          refine hA_aload (zs_aload_n em159_100) rfl ?_
          refine hA_getf1 (q := (0, 1)) (zs_getf (T := TX12) (M := 70) (ci := 12) (j := 58) em159_101 rfl inX12 (by decide) wd_1330 ((congrFun xo_12 320).trans rfl)) ⟨_, rfl, rfl⟩ rfl (fun z101 (hz101 : (0 : Int) ≤ z101.toInt) (hz101b : z101.toInt ≤ 1) => ?_)
          refine hA_if (zs_ifeq em159_104 (t := 109) (by decide)) (fun (c104 : z101.toInt = 0) => ?_) (fun (c104 : ¬ z101.toInt = 0) => ?_)
          · refine hA_iload (zs_iload em159_109) rfl ?_
            refine hA_iload (zs_iload em159_111) rfl ?_
            refine hA_icmp (zs_icmplt em159_113 (t := 119) (by decide)) (fun (c113 : z75.toInt < z95.toInt) => ?_) (fun (c113 : ¬ z75.toInt < z95.toInt) => ?_)
            · refine hA_aload (zs_aload_n em159_119) rfl ?_
              refine hA_aload (zs_aload_n em159_120) rfl ?_
              refine hA_getf2 (r := 99) (zs_getf (T := TX12) (M := 70) (ci := 12) (j := 47) em159_121 rfl inX12 (by decide) wd_1319 ((congrFun xo_12 89).trans rfl)) ⟨_, rfl, rfl⟩ ?_
              refine hA_iload (zs_iload em159_124) rfl ?_
              refine hA_iald (kd := 99) (len := 260) (zs_iald em159_126) ⟨rfl, rfl, rfl⟩ (by omega) (by show _ < ((260 : Nat) : Int); omega) (fun z126' hz126' => ?_)
              refine hA_aload (zs_aload_n em159_127) rfl ?_
              refine hA_getf2 (r := 100) (zs_getf (T := TX12) (M := 70) (ci := 12) (j := 48) em159_128 rfl inX12 (by decide) wd_1320 ((congrFun xo_12 92).trans rfl)) ⟨_, rfl, rfl⟩ ?_
              refine hA_iload (zs_iload em159_131) rfl ?_
              refine hA_iald (kd := 100) (len := 260) (zs_iald em159_133) ⟨rfl, rfl, rfl⟩ (by omega) (by show _ < ((260 : Nat) : Int); omega) (fun z133' hz133' => ?_)
              refine hA_callV (as := [.inl z126', .inl z133']) (rest := []) (B' := (0, 0)) (zs_invV (T := TX12) em159_134 zl_264 rfl wd_1667 wd_1669 wd_81 ((congrFun xo_12 350).trans rfl) xm_232) rfl ⟨_, rfl⟩ (Nat.le_of_ble_eq_true rfl) rfl ⟨Nat.zero_le _, Nat.zero_le _⟩ (hpre_of rfl (show hpr_264 d [.inr (.inl (some 75)), .inl z126', .inl z133'] I from ⟨by show 1 ≤ d; omega, z126', z133', rfl, ⟨420 * zf I 22, by omega, by rw [hz126', hz133']; exact hbr.2.2⟩⟩)) (fun r134 I134 hp134 => ?_)
              replace hp134 : hpo_264 _ _ _ _ := hpost_of rfl hp134
              replace hp134 := hp134 z126' z133' rfl
              obtain ⟨z134, rfl, rfl⟩ := hp134
              refine hA_istore (L' := [some (.inr (.inl (some 75))), some (.inl x1), some (.inl x2), some (.inl at0), some (.inl b), some (.inl z134), some (.inl z95)]) (zs_istore em159_137) ⟨Nat.le_of_ble_eq_true rfl, rfl⟩ rfl ?_
              refine hA_aload (zs_aload_n em159_139) rfl ?_
              refine hA_getf1 (q := (0, 1)) (zs_getf (T := TX12) (M := 70) (ci := 12) (j := 58) em159_140 rfl inX12 (by decide) wd_1330 ((congrFun xo_12 320).trans rfl)) ⟨_, rfl, rfl⟩ rfl (fun z140' (hz140' : (0 : Int) ≤ z140'.toInt) (hz140'b : z140'.toInt ≤ 1) => ?_)
              refine hA_if (zs_ifeq em159_143 (t := 150) (by decide)) (fun (c143' : z140'.toInt = 0) => ?_) (fun (c143' : ¬ z140'.toInt = 0) => ?_)
              · refine hA_iload (zs_iload em159_150) rfl ?_
                refine hA_ireturn ⟨rfl, em159_152⟩ ⟨Nat.le_refl _, Nat.le_refl _⟩ ?_
                exact ⟨⟨_, List.mem_cons_self, ⟨_, rfl, an_lo _, an_hi _⟩, hCh_nil, (fun id hl hn => rfl), (fun _ h => absurd h List.not_mem_nil)⟩, (fun _ => hInv), (fun _ id hid => rfl)⟩
              · refine hA_const (k := 0) (zs_iconst (v := 0) em159_146 (by decide +kernel)) (by decide +kernel) (fun z146' hz146' => ?_)
                refine hA_goto (zs_goto em159_147 (t := 152) (by decide)) ?_
                refine hA_ireturn ⟨rfl, em159_152⟩ ⟨Nat.le_refl _, Nat.le_refl _⟩ ?_
                exact ⟨⟨_, List.mem_cons_self, ⟨_, rfl, an_lo _, an_hi _⟩, hCh_nil, (fun id hl hn => rfl), (fun _ h => absurd h List.not_mem_nil)⟩, (fun _ => hInv), (fun _ id hid => rfl)⟩
            · refine hA_goto (zs_goto em159_116 (t := 153) (by decide)) ?_
              refine hA_iinc (c := 1) (zs_iinc (k := 1) em159_153 (by decide +kernel)) (by decide +kernel) rfl ⟨Nat.le_of_ble_eq_true rfl, rfl⟩ (by omega) (by omega) (fun z153 hz153 => ?_)
              show zAt _ _ _ _ _ _ _ _ _ _ [some (.inr (.inl (some 75))), some (.inl x1), some (.inl x2), some (.inl at0), some (.inl z153), some (.inl z75), some (.inl z95)] _ _ _
              refine hA_goto (zs_goto em159_156 (t := 39) (by decide)) ?_
              refine hA_fg (L' := [some (.inr (.inl (some 75))), some (.inl x1), some (.inl x2), some (.inl at0), some (.inl z153), none, none]) (by repeat (first | exact trivial | refine And.intro rfl ?_)) ?_
              exact ih _ (by omega) at0 hat z153 (by omega) rfl
          · refine hA_const (k := 0) (zs_iconst (v := 0) em159_107 (by decide +kernel)) (by decide +kernel) (fun z107 hz107 => ?_)
            refine hA_ireturn ⟨rfl, em159_108⟩ ⟨Nat.le_refl _, Nat.le_refl _⟩ ?_
            exact ⟨⟨_, List.mem_cons_self, ⟨_, rfl, an_lo _, an_hi _⟩, hCh_nil, (fun id hl hn => rfl), (fun _ h => absurd h List.not_mem_nil)⟩, (fun _ => hInv), (fun _ id hid => rfl)⟩
  refine hmet (L := [some (.inr (.inl (some 75))), some (.inl x1), some (.inl x2), none, none, none, none]) (by decide) (Nat.le_of_ble_eq_true rfl) hc rfl ?_
  have hlB := lawB hInv (k := x1.toInt) (i := 4 * zf I 22 + x1.toInt) (by omega) (by omega) rfl
  refine hA_const (k := 4) (zs_iconst (v := 4) em159_0 (by decide +kernel)) (by decide +kernel) (fun z0 hz0 => ?_)
  refine hA_aload (zs_aload_n em159_1) rfl ?_
  refine hA_getf0 (id := 22) (zs_getf (T := TX12) (M := 70) (ci := 12) (j := 2) em159_2 rfl inX12 (by decide) wd_1299 ((congrFun xo_12 230).trans rfl)) ⟨_, rfl, rfl⟩ (fun z2 hz2 => ?_)
  refine hA_mull (c := 4) (zs_imul em159_5) hz0 (by omega) (by omega) (fun z5 hz5 => ?_)
  refine hA_iload (zs_iload_n em159_6) rfl ?_
  refine hA_add (zs_iadd em159_7) (by omega) (by omega) (fun z7 hz7 => ?_)
  refine hA_istore (L' := [some (.inr (.inl (some 75))), some (.inl x1), some (.inl x2), some (.inl z7), none, none, none]) (zs_istore_n em159_8) ⟨Nat.le_of_ble_eq_true rfl, rfl⟩ rfl ?_
  refine hA_aload (zs_aload_n em159_9) rfl ?_
  refine hA_getf2 (r := 94) (zs_getf (T := TX12) (M := 70) (ci := 12) (j := 41) em159_10 rfl inX12 (by decide) wd_1313 ((congrFun xo_12 73).trans rfl)) ⟨_, rfl, rfl⟩ ?_
  refine hA_iload (zs_iload_n em159_13) rfl ?_
  refine hA_iald (kd := 94) (len := 8) (zs_iald em159_14) ⟨rfl, rfl, rfl⟩ (by omega) (by show _ < ((8 : Nat) : Int); omega) (fun z14 hz14 => ?_)
  refine hA_aload (zs_aload_n em159_15) rfl ?_
  refine hA_getf2 (r := 95) (zs_getf (T := TX12) (M := 70) (ci := 12) (j := 42) em159_16 rfl inX12 (by decide) wd_1314 ((congrFun xo_12 76).trans rfl)) ⟨_, rfl, rfl⟩ ?_
  refine hA_iload (zs_iload_n em159_19) rfl ?_
  refine hA_iald (kd := 95) (len := 8) (zs_iald em159_20) ⟨rfl, rfl, rfl⟩ (by omega) (by show _ < ((8 : Nat) : Int); omega) (fun z20 hz20 => ?_)
  refine hA_icmp (zs_icmpne em159_21 (t := 26) (by decide)) (fun (c21 : ¬ z14.toInt = z20.toInt) => ?_) (fun (c21 : ¬ ¬ z14.toInt = z20.toInt) => ?_)
  · refine hA_aload (zs_aload_n em159_26) rfl ?_
    refine hA_const (k := 0) (zs_iconst (v := 0) em159_27 (by decide +kernel)) (by decide +kernel) (fun z27 hz27 => ?_)
    refine hA_puti1 (q := (0, 1)) (zs_puti zInj0 (T := TX12) (M := 70) (ty := tyX12) (ci := 12) (j := 58) (kd := 1) em159_28 rfl inX12 tyX12_ok nmX12 (by decide) wd_1330 (Or.inr ⟨rfl, rfl⟩) rfl ((congrFun xo_12 320).trans rfl)) ⟨_, rfl, rfl⟩ rfl (fun _ => ⟨by omega, by omega⟩) (by show (0 : Int) ≤ _; omega) (by show _ ≤ (1 : Int); omega) ?_
    refine hA_aload (zs_aload_n em159_31) rfl ?_
    refine hA_getf2 (r := 94) (zs_getf (T := TX12) (M := 70) (ci := 12) (j := 41) em159_32 rfl inX12 (by decide) wd_1313 ((congrFun xo_12 73).trans rfl)) ⟨_, rfl, rfl⟩ ?_
    refine hA_iload (zs_iload_n em159_35) rfl ?_
    refine hA_iald (kd := 94) (len := 8) (zs_iald em159_36) ⟨rfl, rfl, rfl⟩ (by omega) (by show _ < ((8 : Nat) : Int); omega) (fun z36 hz36 => ?_)
    refine hA_istore (L' := [some (.inr (.inl (some 75))), some (.inl x1), some (.inl x2), some (.inl z7), some (.inl z36), none, none]) (zs_istore em159_37) ⟨Nat.le_of_ble_eq_true rfl, rfl⟩ rfl ?_
    exact loop _ z7 (by omega) z36 (by omega) rfl
  · refine hA_iload (zs_iload_n em159_24) rfl ?_
    refine hA_ireturn ⟨rfl, em159_25⟩ ⟨Nat.le_refl _, Nat.le_refl _⟩ ?_
    exact ⟨⟨_, List.mem_cons_self, ⟨_, rfl, an_lo _, an_hi _⟩, hCh_nil, (fun id hl hn => rfl), (fun _ h => absurd h List.not_mem_nil)⟩, (fun _ => hInv), (fun _ id hid => rfl)⟩
theorem em228_0 : decode prog_14_method_35_code 0 = .ok (.aload_n 0, 1) := by decide +kernel
theorem em228_1 : decode prog_14_method_35_code 1 = .ok (.getfield 95, 3) := by decide +kernel
theorem em228_4 : decode prog_14_method_35_code 4 = .ok (.aload_n 0, 1) := by decide +kernel
theorem em228_5 : decode prog_14_method_35_code 5 = .ok (.getfield 242, 3) := by decide +kernel
theorem em228_8 : decode prog_14_method_35_code 8 = .ok (.iload_n 1, 1) := by decide +kernel
theorem em228_9 : decode prog_14_method_35_code 9 = .ok (.iastore, 1) := by decide +kernel
theorem em228_10 : decode prog_14_method_35_code 10 = .ok (.aload_n 0, 1) := by decide +kernel
theorem em228_11 : decode prog_14_method_35_code 11 = .ok (.getfield 98, 3) := by decide +kernel
theorem em228_14 : decode prog_14_method_35_code 14 = .ok (.aload_n 0, 1) := by decide +kernel
theorem em228_15 : decode prog_14_method_35_code 15 = .ok (.getfield 242, 3) := by decide +kernel
theorem em228_18 : decode prog_14_method_35_code 18 = .ok (.iload_n 2, 1) := by decide +kernel
theorem em228_19 : decode prog_14_method_35_code 19 = .ok (.iastore, 1) := by decide +kernel
theorem em228_20 : decode prog_14_method_35_code 20 = .ok (.aload_n 0, 1) := by decide +kernel
theorem em228_21 : decode prog_14_method_35_code 21 = .ok (.dup, 1) := by decide +kernel
theorem em228_22 : decode prog_14_method_35_code 22 = .ok (.getfield 242, 3) := by decide +kernel
theorem em228_25 : decode prog_14_method_35_code 25 = .ok (.iconst 1, 1) := by decide +kernel
theorem em228_26 : decode prog_14_method_35_code 26 = .ok (.iadd, 1) := by decide +kernel
theorem em228_27 : decode prog_14_method_35_code 27 = .ok (.putfield 242, 3) := by decide +kernel
theorem em228_30 : decode prog_14_method_35_code 30 = .ok (.return_, 1) := by decide +kernel
set_option maxRecDepth 10000 in
set_option maxHeartbeats 4000000 in
theorem hM_260 : zOKx 260 := by
  intro d hc as I q h hq
  have h : hpr_260 (d + 1) as I := h
  obtain ⟨hd, a, b, rfl, hpre⟩ := h
  cases (show some _ = some q from hq)
  obtain ⟨hp0, hp1⟩ := hpre
  refine hmet (L := [some (.inr (.inl (some 75))), some (.inl a), some (.inl b)]) (by decide) (Nat.le_of_ble_eq_true rfl) hc rfl ?_
  refine hA_aload (zs_aload_n em228_0) rfl ?_
  refine hA_getf2 (r := 101) (zs_getf (T := TX12) (M := 70) (ci := 12) (j := 50) em228_1 rfl inX12 (by decide) wd_1322 ((congrFun xo_12 95).trans rfl)) ⟨_, rfl, rfl⟩ ?_
  refine hA_aload (zs_aload_n em228_4) rfl ?_
  refine hA_getf0 (id := 17) (zs_getf (T := TX12) (M := 70) (ci := 12) (j := 49) em228_5 rfl inX12 (by decide) wd_1321 ((congrFun xo_12 242).trans rfl)) ⟨_, rfl, rfl⟩ (fun z5 hz5 => ?_)
  refine hA_iload (zs_iload_n em228_8) rfl ?_
  refine hA_iast (kd := 101) (len := 840) (zs_iast zInj0 em228_9) ⟨rfl, rfl, rfl⟩ (by omega) (by show _ < ((840 : Nat) : Int); omega) ?_
  refine hA_aload (zs_aload_n em228_10) rfl ?_
  refine hA_getf2 (r := 102) (zs_getf (T := TX12) (M := 70) (ci := 12) (j := 51) em228_11 rfl inX12 (by decide) wd_1323 ((congrFun xo_12 98).trans rfl)) ⟨_, rfl, rfl⟩ ?_
  refine hA_aload (zs_aload_n em228_14) rfl ?_
  refine hA_getf0 (id := 17) (zs_getf (T := TX12) (M := 70) (ci := 12) (j := 49) em228_15 rfl inX12 (by decide) wd_1321 ((congrFun xo_12 242).trans rfl)) ⟨_, rfl, rfl⟩ (fun z15 hz15 => ?_)
  rw [zf_arr _ _ _ _ _ (by decide)] at hz15
  refine hA_iload (zs_iload_n em228_18) rfl ?_
  refine hA_iast (kd := 102) (len := 840) (zs_iast zInj0 em228_19) ⟨rfl, rfl, rfl⟩ (by omega) (by show _ < ((840 : Nat) : Int); omega) ?_
  refine hA_aload (zs_aload_n em228_20) rfl ?_
  refine hA_dup (zs_dup em228_21) rfl ?_
  refine hA_getf0 (id := 17) (zs_getf (T := TX12) (M := 70) (ci := 12) (j := 49) em228_22 rfl inX12 (by decide) wd_1321 ((congrFun xo_12 242).trans rfl)) ⟨_, rfl, rfl⟩ (fun z22 hz22 => ?_)
  rw [zf_arr _ _ _ _ _ (by decide), zf_arr _ _ _ _ _ (by decide)] at hz22
  refine hA_const (k := 1) (zs_iconst (v := 1) em228_25 (by decide +kernel)) (by decide +kernel) (fun z25 hz25 => ?_)
  refine hA_add (zs_iadd em228_26) (by omega) (by omega) (fun z26 hz26 => ?_)
  refine hA_puti0 (id := 17) (zs_puti zInj0 (T := TX12) (M := 70) (ty := tyX12) (ci := 12) (j := 49) (kd := 0) em228_27 rfl inX12 tyX12_ok nmX12 (by decide) wd_1321 (Or.inl ⟨rfl, rfl⟩) rfl ((congrFun xo_12 242).trans rfl)) ⟨_, rfl, rfl⟩ (fun h => by cases h) ?_
  refine hA_return ⟨rfl, em228_30⟩ ⟨Nat.le_refl _, Nat.le_refl _⟩ ?_
  intro a' b' he
  cases he
  exact ⟨rfl, z5, z26, by omega, by omega, by rw [show z15.toInt = z5.toInt by omega]⟩
set_option maxRecDepth 10000 in
set_option maxHeartbeats 4000000 in
theorem hM_285 : zOKx 285 := by
  intro d hc as I q h hq
  have h : hpr_285 (d + 1) as I := h
  obtain ⟨hd, a, rfl, hpre⟩ := h
  cases (show some _ = some q from hq)
  obtain ⟨hp0, hp1⟩ := hpre
  refine hmet (L := [some (.inr (.inl (some 75))), some (.inl a)]) (by decide) (Nat.le_of_ble_eq_true rfl) hc rfl ?_
  refine hA_aload (zs_aload_n em149_0) rfl ?_
  refine hA_getf0 (id := 13) (zs_getf (T := TX12) (M := 70) (ci := 12) (j := 27) em149_1 rfl inX12 (by decide) wd_1294 ((congrFun xo_12 200).trans rfl)) ⟨_, rfl, rfl⟩ (fun z1 hz1 => ?_)
  refine hA_if (zs_ifne em149_4 (t := 24) (by decide)) (fun (c4 : ¬ z1.toInt = 0) => ?_) (fun (c4 : ¬ ¬ z1.toInt = 0) => ?_)
  · refine hA_const (k := 0) (zs_iconst (v := 0) em149_24 (by decide +kernel)) (by decide +kernel) (fun z24 hz24 => ?_)
    refine hA_zreturn ⟨rfl, em149_25⟩ ⟨Nat.le_refl _, Nat.le_refl _⟩ ⟨by omega, by omega⟩ ?_
    intro a' he
    cases he
    first | exact ⟨_, rfl, rfl, Or.inl ⟨by omega, by omega, by omega⟩⟩ | (refine ⟨_, rfl, rfl, Or.inr ⟨by omega, ?_⟩⟩; omega)
  · refine hA_aload (zs_aload_n em149_7) rfl ?_
    refine hA_getf2 (r := 78) (zs_getf (T := TX12) (M := 70) (ci := 12) (j := 19) em149_8 rfl inX12 (by decide) wd_1286 ((congrFun xo_12 20).trans rfl)) ⟨_, rfl, rfl⟩ ?_
    refine hA_aload (zs_aload_n em149_11) rfl ?_
    refine hA_getf0 (id := 12) (zs_getf (T := TX12) (M := 70) (ci := 12) (j := 25) em149_12 rfl inX12 (by decide) wd_1292 ((congrFun xo_12 203).trans rfl)) ⟨_, rfl, rfl⟩ (fun z12 hz12 => ?_)
    refine hA_iald (kd := 78) (len := 403) (zs_iald em149_15) ⟨rfl, rfl, rfl⟩ (by omega) (by show _ < ((403 : Nat) : Int); omega) (fun z15 hz15 => ?_)
    rw [hz12] at hz15
    refine hA_iload (zs_iload_n em149_16) rfl ?_
    refine hA_icmp (zs_icmpne em149_17 (t := 24) (by decide)) (fun (c17 : ¬ z15.toInt = a.toInt) => ?_) (fun (c17 : ¬ ¬ z15.toInt = a.toInt) => ?_)
    · refine hA_const (k := 0) (zs_iconst (v := 0) em149_24 (by decide +kernel)) (by decide +kernel) (fun z24' hz24' => ?_)
      refine hA_zreturn ⟨rfl, em149_25⟩ ⟨Nat.le_refl _, Nat.le_refl _⟩ ⟨by omega, by omega⟩ ?_
      intro a' he
      cases he
      first | exact ⟨_, rfl, rfl, Or.inl ⟨by omega, by omega, by omega⟩⟩ | (refine ⟨_, rfl, rfl, Or.inr ⟨by omega, ?_⟩⟩; omega)
    · refine hA_const (k := 1) (zs_iconst (v := 1) em149_20 (by decide +kernel)) (by decide +kernel) (fun z20 hz20 => ?_)
      refine hA_goto (zs_goto em149_21 (t := 25) (by decide)) ?_
      refine hA_zreturn ⟨rfl, em149_25⟩ ⟨Nat.le_refl _, Nat.le_refl _⟩ ⟨by omega, by omega⟩ ?_
      intro a' he
      cases he
      first | exact ⟨_, rfl, rfl, Or.inl ⟨by omega, by omega, by omega⟩⟩ | (refine ⟨_, rfl, rfl, Or.inr ⟨by omega, ?_⟩⟩; omega)
