theorem em216_0 : decode prog_14_method_13_code 0 = .ok (.iload_n 2, 1) := by decide +kernel
theorem em216_1 : decode prog_14_method_13_code 1 = .ok (.bipush 59, 2) := by decide +kernel
theorem em216_3 : decode prog_14_method_13_code 3 = .ok (.if_icmp .ne 7, 3) := by decide +kernel
theorem em216_6 : decode prog_14_method_13_code 6 = .ok (.iconst 4, 1) := by decide +kernel
theorem em216_7 : decode prog_14_method_13_code 7 = .ok (.goto 36, 3) := by decide +kernel
theorem em216_10 : decode prog_14_method_13_code 10 = .ok (.iload_n 2, 1) := by decide +kernel
theorem em216_11 : decode prog_14_method_13_code 11 = .ok (.bipush 61, 2) := by decide +kernel
theorem em216_13 : decode prog_14_method_13_code 13 = .ok (.if_icmp .ne 7, 3) := by decide +kernel
theorem em216_16 : decode prog_14_method_13_code 16 = .ok (.iconst 5, 1) := by decide +kernel
theorem em216_17 : decode prog_14_method_13_code 17 = .ok (.goto 26, 3) := by decide +kernel
theorem em216_20 : decode prog_14_method_13_code 20 = .ok (.iload_n 2, 1) := by decide +kernel
theorem em216_21 : decode prog_14_method_13_code 21 = .ok (.bipush 40, 2) := by decide +kernel
theorem em216_23 : decode prog_14_method_13_code 23 = .ok (.if_icmp .ne 8, 3) := by decide +kernel
theorem em216_26 : decode prog_14_method_13_code 26 = .ok (.bipush 6, 2) := by decide +kernel
theorem em216_28 : decode prog_14_method_13_code 28 = .ok (.goto 15, 3) := by decide +kernel
theorem em216_31 : decode prog_14_method_13_code 31 = .ok (.iload_n 2, 1) := by decide +kernel
theorem em216_32 : decode prog_14_method_13_code 32 = .ok (.bipush 41, 2) := by decide +kernel
theorem em216_34 : decode prog_14_method_13_code 34 = .ok (.if_icmp .ne 8, 3) := by decide +kernel
theorem em216_37 : decode prog_14_method_13_code 37 = .ok (.bipush 7, 2) := by decide +kernel
theorem em216_39 : decode prog_14_method_13_code 39 = .ok (.goto 4, 3) := by decide +kernel
theorem em216_42 : decode prog_14_method_13_code 42 = .ok (.iconst 3, 1) := by decide +kernel
theorem em216_43 : decode prog_14_method_13_code 43 = .ok (.istore 4, 2) := by decide +kernel
theorem em216_45 : decode prog_14_method_13_code 45 = .ok (.iload_n 2, 1) := by decide +kernel
theorem em216_46 : decode prog_14_method_13_code 46 = .ok (.bipush 43, 2) := by decide +kernel
theorem em216_48 : decode prog_14_method_13_code 48 = .ok (.if_icmp .ne 7, 3) := by decide +kernel
theorem em216_51 : decode prog_14_method_13_code 51 = .ok (.bipush 8, 2) := by decide +kernel
theorem em216_53 : decode prog_14_method_13_code 53 = .ok (.istore 4, 2) := by decide +kernel
theorem em216_55 : decode prog_14_method_13_code 55 = .ok (.iload_n 2, 1) := by decide +kernel
theorem em216_56 : decode prog_14_method_13_code 56 = .ok (.bipush 45, 2) := by decide +kernel
theorem em216_58 : decode prog_14_method_13_code 58 = .ok (.if_icmp .ne 7, 3) := by decide +kernel
theorem em216_61 : decode prog_14_method_13_code 61 = .ok (.bipush 9, 2) := by decide +kernel
theorem em216_63 : decode prog_14_method_13_code 63 = .ok (.istore 4, 2) := by decide +kernel
theorem em216_65 : decode prog_14_method_13_code 65 = .ok (.iload_n 2, 1) := by decide +kernel
theorem em216_66 : decode prog_14_method_13_code 66 = .ok (.bipush 42, 2) := by decide +kernel
theorem em216_68 : decode prog_14_method_13_code 68 = .ok (.if_icmp .ne 7, 3) := by decide +kernel
theorem em216_71 : decode prog_14_method_13_code 71 = .ok (.bipush 10, 2) := by decide +kernel
theorem em216_73 : decode prog_14_method_13_code 73 = .ok (.istore 4, 2) := by decide +kernel
theorem em216_75 : decode prog_14_method_13_code 75 = .ok (.iload_n 2, 1) := by decide +kernel
theorem em216_76 : decode prog_14_method_13_code 76 = .ok (.bipush 47, 2) := by decide +kernel
theorem em216_78 : decode prog_14_method_13_code 78 = .ok (.if_icmp .ne 7, 3) := by decide +kernel
theorem em216_81 : decode prog_14_method_13_code 81 = .ok (.bipush 15, 2) := by decide +kernel
theorem em216_83 : decode prog_14_method_13_code 83 = .ok (.istore 4, 2) := by decide +kernel
theorem em216_85 : decode prog_14_method_13_code 85 = .ok (.iload_n 2, 1) := by decide +kernel
theorem em216_86 : decode prog_14_method_13_code 86 = .ok (.bipush 60, 2) := by decide +kernel
theorem em216_88 : decode prog_14_method_13_code 88 = .ok (.if_icmp .ne 7, 3) := by decide +kernel
theorem em216_91 : decode prog_14_method_13_code 91 = .ok (.bipush 13, 2) := by decide +kernel
theorem em216_93 : decode prog_14_method_13_code 93 = .ok (.istore 4, 2) := by decide +kernel
theorem em216_95 : decode prog_14_method_13_code 95 = .ok (.aload_n 0, 1) := by decide +kernel
theorem em216_96 : decode prog_14_method_13_code 96 = .ok (.iload 4, 2) := by decide +kernel
theorem em216_98 : decode prog_14_method_13_code 98 = .ok (.iload_n 1, 1) := by decide +kernel
theorem em216_99 : decode prog_14_method_13_code 99 = .ok (.iconst 0, 1) := by decide +kernel
theorem em216_100 : decode prog_14_method_13_code 100 = .ok (.lconst 0, 1) := by decide +kernel
theorem em216_101 : decode prog_14_method_13_code 101 = .ok (.invokevirtual 185, 3) := by decide +kernel
theorem em216_104 : decode prog_14_method_13_code 104 = .ok (.iconst 1, 1) := by decide +kernel
theorem em216_105 : decode prog_14_method_13_code 105 = .ok (.ireturn, 1) := by decide +kernel
set_option maxRecDepth 10000 in
set_option maxHeartbeats 4000000 in
theorem hM_248 : zOKx 248 := by
  intro d hc as I q h hq
  have h : hpr_248 (d + 1) as I := h
  obtain ⟨hd, a, b, c, rfl, hpre⟩ := h
  cases (show some _ = some q from hq)
  obtain ⟨hp0, hp1⟩ := hpre
  have h95 : ∀ k : Int32, (0 ≤ k.toInt ∧ k.toInt ≤ 40) → zAt zG0 PZ zbd zpre zpost (d, (zbd 248).1, (zbd 248).2) prog_14_method_13_code "CapitalCaseModel" (zRet prog_14_method_13_code (some .int) (zbd 248) (hpost 248 [.inr (.inl (some 75)), .inl a, .inl b, .inl c] I)) 95 [some (.inr (.inl (some 75))), some (.inl a), some (.inl b), some (.inl c), some (.inl k)] [] I (0, 0) := by
    intro k hk
    refine hA_aload (zs_aload_n em216_95) rfl ?_
    refine hA_iload (zs_iload em216_96) rfl ?_
    refine hA_iload (zs_iload_n em216_98) rfl ?_
    refine hA_const (k := 0) (zs_iconst (v := 0) em216_99 (by decide +kernel)) (by decide +kernel) (fun z99 hz99 => ?_)
    refine hA_lconst (zs_lconst (v := 0) em216_100 (by decide +kernel)) ?_
    refine hA_callV (as := [.inl k, .inl a, .inl z99, .inr (.inr (0 : Int64))]) (rest := []) (B' := (0, 0)) (zs_invV (T := TX12) em216_101 zl_247 rfl wd_1517 wd_1519 wd_50 ((congrFun xo_12 185).trans rfl) xm_215) rfl ⟨_, rfl⟩ (Nat.le_of_ble_eq_true rfl) rfl ⟨Nat.zero_le _, Nat.zero_le _⟩ (hpre_of rfl (show hpr_247 d [.inr (.inl (some 75)), .inl k, .inl a, .inl z99, .inr (.inr (0 : Int64))] I from ⟨by show 1 ≤ d; omega, k, a, z99, (0 : Int64), rfl, ⟨⟨by omega, by omega⟩, by unfold zword; exact Or.inl (by decide)⟩⟩)) (fun r101 I101 hp101 => ?_)
    replace hp101 : hpo_247 _ _ _ _ := hpost_of rfl hp101
    replace hp101 := hp101 k a z99 (0 : Int64) rfl
    obtain ⟨rfl, i101, u101, hi101, hu101, rfl⟩ := hp101
    refine hA_const (k := 1) (zs_iconst (v := 1) em216_104 (by decide +kernel)) (by decide +kernel) (fun z104 hz104 => ?_)
    refine hA_ireturn ⟨rfl, em216_105⟩ ⟨Nat.le_refl _, Nat.le_refl _⟩ ?_
    intro a' b' c' he
    cases he
    exact ⟨_, rfl, by omega, i101, u101, k, by omega, by omega, hk, rfl⟩
  have h85 : ∀ k : Int32, (0 ≤ k.toInt ∧ k.toInt ≤ 40) → zAt zG0 PZ zbd zpre zpost (d, (zbd 248).1, (zbd 248).2) prog_14_method_13_code "CapitalCaseModel" (zRet prog_14_method_13_code (some .int) (zbd 248) (hpost 248 [.inr (.inl (some 75)), .inl a, .inl b, .inl c] I)) 85 [some (.inr (.inl (some 75))), some (.inl a), some (.inl b), some (.inl c), some (.inl k)] [] I (0, 0) := by
    intro k hk
    refine hA_iload (zs_iload_n em216_85) rfl ?_
    refine hA_const (k := 60) (zs_bipush (v := 60) em216_86 (by decide +kernel)) (by decide +kernel) (fun z86 hz86 => ?_)
    refine hA_icmp (zs_icmpne em216_88 (t := 95) (by decide)) (fun (c88 : ¬ b.toInt = z86.toInt) => ?_) (fun (c88 : ¬ ¬ b.toInt = z86.toInt) => ?_)
    · exact h95 k (by omega)
    · refine hA_const (k := 13) (zs_bipush (v := 13) em216_91 (by decide +kernel)) (by decide +kernel) (fun z91 hz91 => ?_)
      refine hA_istore (L' := [some (.inr (.inl (some 75))), some (.inl a), some (.inl b), some (.inl c), some (.inl z91)]) (zs_istore em216_93) ⟨Nat.le_of_ble_eq_true rfl, rfl⟩ rfl ?_
      exact h95 z91 (by omega)
  have h75 : ∀ k : Int32, (0 ≤ k.toInt ∧ k.toInt ≤ 40) → zAt zG0 PZ zbd zpre zpost (d, (zbd 248).1, (zbd 248).2) prog_14_method_13_code "CapitalCaseModel" (zRet prog_14_method_13_code (some .int) (zbd 248) (hpost 248 [.inr (.inl (some 75)), .inl a, .inl b, .inl c] I)) 75 [some (.inr (.inl (some 75))), some (.inl a), some (.inl b), some (.inl c), some (.inl k)] [] I (0, 0) := by
    intro k hk
    refine hA_iload (zs_iload_n em216_75) rfl ?_
    refine hA_const (k := 47) (zs_bipush (v := 47) em216_76 (by decide +kernel)) (by decide +kernel) (fun z76 hz76 => ?_)
    refine hA_icmp (zs_icmpne em216_78 (t := 85) (by decide)) (fun (c78 : ¬ b.toInt = z76.toInt) => ?_) (fun (c78 : ¬ ¬ b.toInt = z76.toInt) => ?_)
    · exact h85 k (by omega)
    · refine hA_const (k := 15) (zs_bipush (v := 15) em216_81 (by decide +kernel)) (by decide +kernel) (fun z81 hz81 => ?_)
      refine hA_istore (L' := [some (.inr (.inl (some 75))), some (.inl a), some (.inl b), some (.inl c), some (.inl z81)]) (zs_istore em216_83) ⟨Nat.le_of_ble_eq_true rfl, rfl⟩ rfl ?_
      exact h85 z81 (by omega)
  have h65 : ∀ k : Int32, (0 ≤ k.toInt ∧ k.toInt ≤ 40) → zAt zG0 PZ zbd zpre zpost (d, (zbd 248).1, (zbd 248).2) prog_14_method_13_code "CapitalCaseModel" (zRet prog_14_method_13_code (some .int) (zbd 248) (hpost 248 [.inr (.inl (some 75)), .inl a, .inl b, .inl c] I)) 65 [some (.inr (.inl (some 75))), some (.inl a), some (.inl b), some (.inl c), some (.inl k)] [] I (0, 0) := by
    intro k hk
    refine hA_iload (zs_iload_n em216_65) rfl ?_
    refine hA_const (k := 42) (zs_bipush (v := 42) em216_66 (by decide +kernel)) (by decide +kernel) (fun z66 hz66 => ?_)
    refine hA_icmp (zs_icmpne em216_68 (t := 75) (by decide)) (fun (c68 : ¬ b.toInt = z66.toInt) => ?_) (fun (c68 : ¬ ¬ b.toInt = z66.toInt) => ?_)
    · exact h75 k (by omega)
    · refine hA_const (k := 10) (zs_bipush (v := 10) em216_71 (by decide +kernel)) (by decide +kernel) (fun z71 hz71 => ?_)
      refine hA_istore (L' := [some (.inr (.inl (some 75))), some (.inl a), some (.inl b), some (.inl c), some (.inl z71)]) (zs_istore em216_73) ⟨Nat.le_of_ble_eq_true rfl, rfl⟩ rfl ?_
      exact h75 z71 (by omega)
  have h55 : ∀ k : Int32, (0 ≤ k.toInt ∧ k.toInt ≤ 40) → zAt zG0 PZ zbd zpre zpost (d, (zbd 248).1, (zbd 248).2) prog_14_method_13_code "CapitalCaseModel" (zRet prog_14_method_13_code (some .int) (zbd 248) (hpost 248 [.inr (.inl (some 75)), .inl a, .inl b, .inl c] I)) 55 [some (.inr (.inl (some 75))), some (.inl a), some (.inl b), some (.inl c), some (.inl k)] [] I (0, 0) := by
    intro k hk
    refine hA_iload (zs_iload_n em216_55) rfl ?_
    refine hA_const (k := 45) (zs_bipush (v := 45) em216_56 (by decide +kernel)) (by decide +kernel) (fun z56 hz56 => ?_)
    refine hA_icmp (zs_icmpne em216_58 (t := 65) (by decide)) (fun (c58 : ¬ b.toInt = z56.toInt) => ?_) (fun (c58 : ¬ ¬ b.toInt = z56.toInt) => ?_)
    · exact h65 k (by omega)
    · refine hA_const (k := 9) (zs_bipush (v := 9) em216_61 (by decide +kernel)) (by decide +kernel) (fun z61 hz61 => ?_)
      refine hA_istore (L' := [some (.inr (.inl (some 75))), some (.inl a), some (.inl b), some (.inl c), some (.inl z61)]) (zs_istore em216_63) ⟨Nat.le_of_ble_eq_true rfl, rfl⟩ rfl ?_
      exact h65 z61 (by omega)
  have h45 : ∀ k : Int32, (0 ≤ k.toInt ∧ k.toInt ≤ 40) → zAt zG0 PZ zbd zpre zpost (d, (zbd 248).1, (zbd 248).2) prog_14_method_13_code "CapitalCaseModel" (zRet prog_14_method_13_code (some .int) (zbd 248) (hpost 248 [.inr (.inl (some 75)), .inl a, .inl b, .inl c] I)) 45 [some (.inr (.inl (some 75))), some (.inl a), some (.inl b), some (.inl c), some (.inl k)] [] I (0, 0) := by
    intro k hk
    refine hA_iload (zs_iload_n em216_45) rfl ?_
    refine hA_const (k := 43) (zs_bipush (v := 43) em216_46 (by decide +kernel)) (by decide +kernel) (fun z46 hz46 => ?_)
    refine hA_icmp (zs_icmpne em216_48 (t := 55) (by decide)) (fun (c48 : ¬ b.toInt = z46.toInt) => ?_) (fun (c48 : ¬ ¬ b.toInt = z46.toInt) => ?_)
    · exact h55 k (by omega)
    · refine hA_const (k := 8) (zs_bipush (v := 8) em216_51 (by decide +kernel)) (by decide +kernel) (fun z51 hz51 => ?_)
      refine hA_istore (L' := [some (.inr (.inl (some 75))), some (.inl a), some (.inl b), some (.inl c), some (.inl z51)]) (zs_istore em216_53) ⟨Nat.le_of_ble_eq_true rfl, rfl⟩ rfl ?_
      exact h55 z51 (by omega)
  refine hmet (L := [some (.inr (.inl (some 75))), some (.inl a), some (.inl b), some (.inl c), none]) (by decide) (Nat.le_of_ble_eq_true rfl) hc rfl ?_
  refine hA_iload (zs_iload_n em216_0) rfl ?_
  refine hA_const (k := 59) (zs_bipush (v := 59) em216_1 (by decide +kernel)) (by decide +kernel) (fun z1 hz1 => ?_)
  refine hA_icmp (zs_icmpne em216_3 (t := 10) (by decide)) (fun (c3 : ¬ b.toInt = z1.toInt) => ?_) (fun (c3 : ¬ ¬ b.toInt = z1.toInt) => ?_)
  · refine hA_iload (zs_iload_n em216_10) rfl ?_
    refine hA_const (k := 61) (zs_bipush (v := 61) em216_11 (by decide +kernel)) (by decide +kernel) (fun z11 hz11 => ?_)
    refine hA_icmp (zs_icmpne em216_13 (t := 20) (by decide)) (fun (c13 : ¬ b.toInt = z11.toInt) => ?_) (fun (c13 : ¬ ¬ b.toInt = z11.toInt) => ?_)
    · refine hA_iload (zs_iload_n em216_20) rfl ?_
      refine hA_const (k := 40) (zs_bipush (v := 40) em216_21 (by decide +kernel)) (by decide +kernel) (fun z21 hz21 => ?_)
      refine hA_icmp (zs_icmpne em216_23 (t := 31) (by decide)) (fun (c23 : ¬ b.toInt = z21.toInt) => ?_) (fun (c23 : ¬ ¬ b.toInt = z21.toInt) => ?_)
      · refine hA_iload (zs_iload_n em216_31) rfl ?_
        refine hA_const (k := 41) (zs_bipush (v := 41) em216_32 (by decide +kernel)) (by decide +kernel) (fun z32 hz32 => ?_)
        refine hA_icmp (zs_icmpne em216_34 (t := 42) (by decide)) (fun (c34 : ¬ b.toInt = z32.toInt) => ?_) (fun (c34 : ¬ ¬ b.toInt = z32.toInt) => ?_)
        · refine hA_const (k := 3) (zs_iconst (v := 3) em216_42 (by decide +kernel)) (by decide +kernel) (fun z42 hz42 => ?_)
          refine hA_istore (L' := [some (.inr (.inl (some 75))), some (.inl a), some (.inl b), some (.inl c), some (.inl z42)]) (zs_istore em216_43) ⟨Nat.le_of_ble_eq_true rfl, rfl⟩ rfl ?_
          exact h45 z42 (by omega)
        · refine hA_const (k := 7) (zs_bipush (v := 7) em216_37 (by decide +kernel)) (by decide +kernel) (fun z37 hz37 => ?_)
          refine hA_goto (zs_goto em216_39 (t := 43) (by decide)) ?_
          refine hA_istore (L' := [some (.inr (.inl (some 75))), some (.inl a), some (.inl b), some (.inl c), some (.inl z37)]) (zs_istore em216_43) ⟨Nat.le_of_ble_eq_true rfl, rfl⟩ rfl ?_
          exact h45 z37 (by omega)
      · refine hA_const (k := 6) (zs_bipush (v := 6) em216_26 (by decide +kernel)) (by decide +kernel) (fun z26 hz26 => ?_)
        refine hA_goto (zs_goto em216_28 (t := 43) (by decide)) ?_
        refine hA_istore (L' := [some (.inr (.inl (some 75))), some (.inl a), some (.inl b), some (.inl c), some (.inl z26)]) (zs_istore em216_43) ⟨Nat.le_of_ble_eq_true rfl, rfl⟩ rfl ?_
        exact h45 z26 (by omega)
    · refine hA_const (k := 5) (zs_iconst (v := 5) em216_16 (by decide +kernel)) (by decide +kernel) (fun z16 hz16 => ?_)
      refine hA_goto (zs_goto em216_17 (t := 43) (by decide)) ?_
      refine hA_istore (L' := [some (.inr (.inl (some 75))), some (.inl a), some (.inl b), some (.inl c), some (.inl z16)]) (zs_istore em216_43) ⟨Nat.le_of_ble_eq_true rfl, rfl⟩ rfl ?_
      exact h45 z16 (by omega)
  · refine hA_const (k := 4) (zs_iconst (v := 4) em216_6 (by decide +kernel)) (by decide +kernel) (fun z6 hz6 => ?_)
    refine hA_goto (zs_goto em216_7 (t := 43) (by decide)) ?_
    refine hA_istore (L' := [some (.inr (.inl (some 75))), some (.inl a), some (.inl b), some (.inl c), some (.inl z6)]) (zs_istore em216_43) ⟨Nat.le_of_ble_eq_true rfl, rfl⟩ rfl ?_
    exact h45 z6 (by omega)
