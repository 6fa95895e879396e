theorem jt_not2 {x : Int32} (h : x ∈ zByt.getD 0 []) : ¬ x.toInt = 2 := (show ∀ y ∈ zByt.getD 0 [], ¬ y.toInt = 2 by decide) x h
theorem em239_0 : decode prog_9_method_7_code 0 = .ok (.aload_n 0, 1) := by decide +kernel
theorem em239_1 : decode prog_9_method_7_code 1 = .ok (.iload_n 1, 1) := by decide +kernel
theorem em239_2 : decode prog_9_method_7_code 2 = .ok (.baload, 1) := by decide +kernel
theorem em239_3 : decode prog_9_method_7_code 3 = .ok (.istore_n 3, 1) := by decide +kernel
theorem em239_4 : decode prog_9_method_7_code 4 = .ok (.iload_n 3, 1) := by decide +kernel
theorem em239_5 : decode prog_9_method_7_code 5 = .ok (.invokestatic 30, 3) := by decide +kernel
theorem em239_8 : decode prog_9_method_7_code 8 = .ok (.ifCond .eq 20, 3) := by decide +kernel
theorem em239_11 : decode prog_9_method_7_code 11 = .ok (.iload_n 2, 1) := by decide +kernel
theorem em239_12 : decode prog_9_method_7_code 12 = .ok (.bipush 8, 2) := by decide +kernel
theorem em239_14 : decode prog_9_method_7_code 14 = .ok (.if_icmp .le 7, 3) := by decide +kernel
theorem em239_17 : decode prog_9_method_7_code 17 = .ok (.iconst 1, 1) := by decide +kernel
theorem em239_18 : decode prog_9_method_7_code 18 = .ok (.goto 9, 3) := by decide +kernel
theorem em239_21 : decode prog_9_method_7_code 21 = .ok (.aload_n 0, 1) := by decide +kernel
theorem em239_22 : decode prog_9_method_7_code 22 = .ok (.iload_n 1, 1) := by decide +kernel
theorem em239_23 : decode prog_9_method_7_code 23 = .ok (.iload_n 2, 1) := by decide +kernel
theorem em239_24 : decode prog_9_method_7_code 24 = .ok (.invokestatic 36, 3) := by decide +kernel
theorem em239_27 : decode prog_9_method_7_code 27 = .ok (.ireturn, 1) := by decide +kernel
theorem em239_28 : decode prog_9_method_7_code 28 = .ok (.iload_n 3, 1) := by decide +kernel
theorem em239_29 : decode prog_9_method_7_code 29 = .ok (.invokestatic 33, 3) := by decide +kernel
theorem em239_32 : decode prog_9_method_7_code 32 = .ok (.ifCond .eq 14, 3) := by decide +kernel
theorem em239_35 : decode prog_9_method_7_code 35 = .ok (.iload_n 2, 1) := by decide +kernel
theorem em239_36 : decode prog_9_method_7_code 36 = .ok (.iconst 4, 1) := by decide +kernel
theorem em239_37 : decode prog_9_method_7_code 37 = .ok (.if_icmp .le 7, 3) := by decide +kernel
theorem em239_40 : decode prog_9_method_7_code 40 = .ok (.iconst 1, 1) := by decide +kernel
theorem em239_41 : decode prog_9_method_7_code 41 = .ok (.goto 4, 3) := by decide +kernel
theorem em239_44 : decode prog_9_method_7_code 44 = .ok (.iconst 3, 1) := by decide +kernel
theorem em239_45 : decode prog_9_method_7_code 45 = .ok (.ireturn, 1) := by decide +kernel
theorem em239_46 : decode prog_9_method_7_code 46 = .ok (.iload_n 3, 1) := by decide +kernel
theorem em239_47 : decode prog_9_method_7_code 47 = .ok (.ifCond .le 17, 3) := by decide +kernel
theorem em239_50 : decode prog_9_method_7_code 50 = .ok (.ldc 39, 2) := by decide +kernel
theorem em239_52 : decode prog_9_method_7_code 52 = .ok (.iload_n 3, 1) := by decide +kernel
theorem em239_53 : decode prog_9_method_7_code 53 = .ok (.i2c, 1) := by decide +kernel
theorem em239_54 : decode prog_9_method_7_code 54 = .ok (.invokevirtual 41, 3) := by decide +kernel
theorem em239_57 : decode prog_9_method_7_code 57 = .ok (.ifCond .lt 7, 3) := by decide +kernel
theorem em239_60 : decode prog_9_method_7_code 60 = .ok (.iload_n 3, 1) := by decide +kernel
theorem em239_61 : decode prog_9_method_7_code 61 = .ok (.goto 4, 3) := by decide +kernel
theorem em239_64 : decode prog_9_method_7_code 64 = .ok (.iconst 1, 1) := by decide +kernel
theorem em239_65 : decode prog_9_method_7_code 65 = .ok (.ireturn, 1) := by decide +kernel
set_option maxRecDepth 10000 in
set_option maxHeartbeats 4000000 in
theorem hM_271 : zOKx 271 := by
  intro d hc as I q h hq
  have h : hpr_271 (d + 1) as I := h
  obtain ⟨hd, a, b, rfl, hpre⟩ := h
  cases (show some _ = some q from hq)
  obtain ⟨ha0, hb0, hab⟩ := hpre
  refine hmet (L := [some (.inr (.inl (some 1))), some (.inl a), some (.inl b), none]) (by decide) (Nat.le_of_ble_eq_true rfl) hc rfl ?_
  refine hA_aload (zs_aload_n em239_0) rfl ?_
  refine hA_iload (zs_iload_n em239_1) rfl ?_
  refine hA_baldH (kd := 1) (len := 2000) (zs_bald em239_2) ⟨rfl, rfl, rfl, Or.inl rfl⟩ (by omega) (by show _ < ((2000 : Nat) : Int); omega) (fun z2 hz2 => ?_)
  have hbz2 : ((-128) : Int) ≤ z2.toInt ∧ z2.toInt ≤ 127 := eall rfl hz2
  refine hA_istore (L' := [some (.inr (.inl (some 1))), some (.inl a), some (.inl b), some (.inl z2)]) (zs_istore_n em239_3) ⟨Nat.le_of_ble_eq_true rfl, rfl⟩ rfl ?_
  refine hA_iload (zs_iload_n em239_4) rfl ?_
  refine hA_call (as := [.inl z2]) (rest := []) (B' := (0, 0)) (zs_invS em239_5 zl_242 wd_633 wd_634 ((congrFun xo_8 30).trans rfl) xm_210) rfl (Nat.le_of_ble_eq_true rfl) rfl ⟨Nat.zero_le _, Nat.zero_le _⟩ (zpre_of zh_242 ⟨(by show 1 ≤ d; omega), ⟨_, _, rfl, ⟨_, rfl, an_lo _, an_hi _⟩, rfl⟩, hF_nil, fun h => by cases h⟩) (fun r5 I5 hp5 => ?_)
  replace hp5 := zpost_of zh_242 hp5
  rcases zq_242 hp5 with ⟨z5, rfl, hz5l, hz5h, rfl⟩ | ⟨z5', rfl, hz5'l, hz5'h, rfl, ha5_0⟩
  · refine hA_if (zs_ifeq em239_8 (t := 28) (by decide)) (fun (c8 : z5.toInt = 0) => ?_) (fun (c8 : ¬ z5.toInt = 0) => ?_)
    · refine hA_iload (zs_iload_n em239_28) rfl ?_
      refine hA_call (as := [.inl z2]) (rest := []) (B' := (0, 0)) (zs_invS em239_29 zl_241 wd_636 wd_637 ((congrFun xo_8 33).trans rfl) xm_209) rfl (Nat.le_of_ble_eq_true rfl) rfl ⟨Nat.zero_le _, Nat.zero_le _⟩ (zpre_of zh_241 ⟨(by show 1 ≤ d; omega), ⟨_, _, rfl, ⟨_, rfl, an_lo _, an_hi _⟩, rfl⟩, hF_nil, fun h => by cases h⟩) (fun r29 I29 hp29 => ?_)
      replace hp29 := zpost_of zh_241 hp29
      rcases zq_241 hp29 with ⟨z29, rfl, hz29l, hz29h, rfl⟩ | ⟨z29', rfl, hz29'l, hz29'h, rfl, ha29_0⟩
      · refine hA_if (zs_ifeq em239_32 (t := 46) (by decide)) (fun (c32 : z29.toInt = 0) => ?_) (fun (c32 : ¬ z29.toInt = 0) => ?_)
        · refine hA_iload (zs_iload_n em239_46) rfl ?_
          refine hA_if (zs_ifle em239_47 (t := 64) (by decide)) (fun (c47 : z2.toInt ≤ 0) => ?_) (fun (c47 : ¬ z2.toInt ≤ 0) => ?_)
          · refine hA_const (k := 1) (zs_iconst (v := 1) em239_64 (by decide +kernel)) (by decide +kernel) (fun z64 hz64 => ?_)
            refine hA_ireturn ⟨rfl, em239_65⟩ ⟨Nat.le_refl _, Nat.le_refl _⟩ ?_
            intro a' b' he'
            cases he'
            exact ⟨_, rfl, ⟨by omega, by omega⟩, fun h => by omega, rfl⟩
          · refine hA (zs_ixof (show 4 ≤ d by omega) em239_50 em239_52 em239_53 em239_54) ?_
            refine ⟨rfl, ⟨by omega, by omega⟩, fun z57 hz57 => ?_⟩
            refine hA_if (zs_iflt em239_57 (t := 64) (by decide)) (fun (c57 : z57.toInt < 0) => ?_) (fun (c57 : ¬ z57.toInt < 0) => ?_)
            · refine hA_const (k := 1) (zs_iconst (v := 1) em239_64 (by decide +kernel)) (by decide +kernel) (fun z64' hz64' => ?_)
              refine hA_ireturn ⟨rfl, em239_65⟩ ⟨Nat.le_refl _, Nat.le_refl _⟩ ?_
              intro a' b' he'
              cases he'
              exact ⟨_, rfl, ⟨by omega, by omega⟩, fun h => by omega, rfl⟩
            · refine hA_iload (zs_iload_n em239_60) rfl ?_
              refine hA_goto (zs_goto em239_61 (t := 65) (by decide)) ?_
              refine hA_ireturn ⟨rfl, em239_65⟩ ⟨Nat.le_refl _, Nat.le_refl _⟩ ?_
              intro a' b' he'
              cases he'
              have hne := jt_not2 (hz57.mp (by omega))
              exact ⟨_, rfl, ⟨by omega, by omega⟩, fun h => by omega, rfl⟩
        · exfalso
          omega
      · have ha29_0 := ha29_0 _ rfl
        refine hA_if (zs_ifeq em239_32 (t := 46) (by decide)) (fun (c32' : z29'.toInt = 0) => ?_) (fun (c32' : ¬ z29'.toInt = 0) => ?_)
        · exfalso
          omega
        · refine hA_iload (zs_iload_n em239_35) rfl ?_
          refine hA_const (k := 4) (zs_iconst (v := 4) em239_36 (by decide +kernel)) (by decide +kernel) (fun z36 hz36 => ?_)
          refine hA_icmp (zs_icmple em239_37 (t := 44) (by decide)) (fun (c37 : b.toInt ≤ z36.toInt) => ?_) (fun (c37 : ¬ b.toInt ≤ z36.toInt) => ?_)
          · refine hA_const (k := 3) (zs_iconst (v := 3) em239_44 (by decide +kernel)) (by decide +kernel) (fun z44 hz44 => ?_)
            refine hA_ireturn ⟨rfl, em239_45⟩ ⟨Nat.le_refl _, Nat.le_refl _⟩ ?_
            intro a' b' he'
            cases he'
            exact ⟨_, rfl, ⟨by omega, by omega⟩, fun h => by omega, rfl⟩
          · refine hA_const (k := 1) (zs_iconst (v := 1) em239_40 (by decide +kernel)) (by decide +kernel) (fun z40 hz40 => ?_)
            refine hA_goto (zs_goto em239_41 (t := 45) (by decide)) ?_
            refine hA_ireturn ⟨rfl, em239_45⟩ ⟨Nat.le_refl _, Nat.le_refl _⟩ ?_
            intro a' b' he'
            cases he'
            exact ⟨_, rfl, ⟨by omega, by omega⟩, fun h => by omega, rfl⟩
    · exfalso
      omega
  · have ha5_0 := ha5_0 _ rfl
    refine hA_if (zs_ifeq em239_8 (t := 28) (by decide)) (fun (c8' : z5'.toInt = 0) => ?_) (fun (c8' : ¬ z5'.toInt = 0) => ?_)
    · exfalso
      omega
    · refine hA_iload (zs_iload_n em239_11) rfl ?_
      refine hA_const (k := 8) (zs_bipush (v := 8) em239_12 (by decide +kernel)) (by decide +kernel) (fun z12 hz12 => ?_)
      refine hA_icmp (zs_icmple em239_14 (t := 21) (by decide)) (fun (c14 : b.toInt ≤ z12.toInt) => ?_) (fun (c14 : ¬ b.toInt ≤ z12.toInt) => ?_)
      · refine hA_aload (zs_aload_n em239_21) rfl ?_
        refine hA_iload (zs_iload_n em239_22) rfl ?_
        refine hA_iload (zs_iload_n em239_23) rfl ?_
        refine hA_call (as := [.inr (.inl (some 1)), .inl a, .inl b]) (rest := []) (B' := (0, 0)) (zs_invS em239_24 zl_272 wd_642 wd_643 ((congrFun xo_8 36).trans rfl) xm_240) rfl (Nat.le_of_ble_eq_true rfl) rfl ⟨Nat.zero_le _, Nat.zero_le _⟩ (hpre_of rfl (show hpr_272 d [.inr (.inl (some 1)), .inl a, .inl b] I from ⟨by show 7 ≤ d; omega, a, b, rfl, ⟨by omega, by omega, by omega, by omega⟩⟩)) (fun r24 I24 hp24 => ?_)
        replace hp24 : hpo_272 _ _ _ _ := hpost_of rfl hp24
        replace hp24 := hp24 a b rfl
        obtain ⟨y24, rfl, hy24, rfl⟩ := hp24
        refine hA_ireturn ⟨rfl, em239_27⟩ ⟨Nat.le_refl _, Nat.le_refl _⟩ ?_
        intro a' b' he'
        cases he'
        exact ⟨_, rfl, ⟨by omega, by omega⟩, fun h => by omega, rfl⟩
      · refine hA_const (k := 1) (zs_iconst (v := 1) em239_17 (by decide +kernel)) (by decide +kernel) (fun z17 hz17 => ?_)
        refine hA_goto (zs_goto em239_18 (t := 27) (by decide)) ?_
        refine hA_ireturn ⟨rfl, em239_27⟩ ⟨Nat.le_refl _, Nat.le_refl _⟩ ?_
        intro a' b' he'
        cases he'
        exact ⟨_, rfl, ⟨by omega, by omega⟩, fun h => by omega, rfl⟩
theorem em241_0 : decode prog_9_method_9_code 0 = .ok (.iconst 0, 1) := by decide +kernel
theorem em241_1 : decode prog_9_method_9_code 1 = .ok (.istore 4, 2) := by decide +kernel
theorem em241_3 : decode prog_9_method_9_code 3 = .ok (.iload 4, 2) := by decide +kernel
theorem em241_5 : decode prog_9_method_9_code 5 = .ok (.bipush 8, 2) := by decide +kernel
theorem em241_7 : decode prog_9_method_9_code 7 = .ok (.if_icmp .ge 47, 3) := by decide +kernel
theorem em241_10 : decode prog_9_method_9_code 10 = .ok (.iload 4, 2) := by decide +kernel
theorem em241_12 : decode prog_9_method_9_code 12 = .ok (.iload_n 3, 1) := by decide +kernel
theorem em241_13 : decode prog_9_method_9_code 13 = .ok (.if_icmp .ge 12, 3) := by decide +kernel
theorem em241_16 : decode prog_9_method_9_code 16 = .ok (.aload_n 1, 1) := by decide +kernel
theorem em241_17 : decode prog_9_method_9_code 17 = .ok (.iload_n 2, 1) := by decide +kernel
theorem em241_18 : decode prog_9_method_9_code 18 = .ok (.iload 4, 2) := by decide +kernel
theorem em241_20 : decode prog_9_method_9_code 20 = .ok (.iadd, 1) := by decide +kernel
theorem em241_21 : decode prog_9_method_9_code 21 = .ok (.baload, 1) := by decide +kernel
theorem em241_22 : decode prog_9_method_9_code 22 = .ok (.goto 5, 3) := by decide +kernel
theorem em241_25 : decode prog_9_method_9_code 25 = .ok (.bipush 32, 2) := by decide +kernel
theorem em241_27 : decode prog_9_method_9_code 27 = .ok (.istore 5, 2) := by decide +kernel
theorem em241_29 : decode prog_9_method_9_code 29 = .ok (.ldc 51, 2) := by decide +kernel
theorem em241_31 : decode prog_9_method_9_code 31 = .ok (.iload_n 0, 1) := by decide +kernel
theorem em241_32 : decode prog_9_method_9_code 32 = .ok (.bipush 8, 2) := by decide +kernel
theorem em241_34 : decode prog_9_method_9_code 34 = .ok (.imul, 1) := by decide +kernel
theorem em241_35 : decode prog_9_method_9_code 35 = .ok (.iload 4, 2) := by decide +kernel
theorem em241_37 : decode prog_9_method_9_code 37 = .ok (.iadd, 1) := by decide +kernel
theorem em241_38 : decode prog_9_method_9_code 38 = .ok (.invokevirtual 53, 3) := by decide +kernel
theorem em241_41 : decode prog_9_method_9_code 41 = .ok (.iload 5, 2) := by decide +kernel
theorem em241_43 : decode prog_9_method_9_code 43 = .ok (.if_icmp .eq 5, 3) := by decide +kernel
theorem em241_46 : decode prog_9_method_9_code 46 = .ok (.iconst 0, 1) := by decide +kernel
theorem em241_47 : decode prog_9_method_9_code 47 = .ok (.ireturn, 1) := by decide +kernel
theorem em241_48 : decode prog_9_method_9_code 48 = .ok (.iinc 4 1, 3) := by decide +kernel
theorem em241_51 : decode prog_9_method_9_code 51 = .ok (.goto (-48), 3) := by decide +kernel
theorem em241_54 : decode prog_9_method_9_code 54 = .ok (.iconst 1, 1) := by decide +kernel
theorem em241_55 : decode prog_9_method_9_code 55 = .ok (.ireturn, 1) := by decide +kernel
set_option maxRecDepth 10000 in
set_option maxHeartbeats 4000000 in
theorem hM_273 : zOKx 273 := by
  intro d hc as I q h hq
  have h : hpr_273 (d + 1) as I := h
  obtain ⟨hd, a, b, c, rfl, hpre⟩ := h
  cases (show some _ = some q from hq)
  obtain ⟨⟨ha0, ha1⟩, hb0, hc0, hc1, hbc⟩ := hpre
  have loop : ∀ (n : Nat) (i : Int32) (hi : 0 ≤ i.toInt), (8 - i.toInt).toNat = n → zAt zG0 PZ zbd zpre zpost (d, (zbd 273).1, (zbd 273).2) prog_9_method_9_code "CapitalCase$Tokens" (zRet prog_9_method_9_code (some .boolean) (zbd 273) (hpost 273 [.inl a, .inr (.inl (some 1)), .inl b, .inl c] I)) 3 [some (.inl a), some (.inr (.inl (some 1))), some (.inl b), some (.inl c), some (.inl i), none] [] I (0, 0) := by
    intro n
    induction n using Nat.strongRecOn with
    | ind n ih =>
      intro i hi hn
      refine hA_iload (zs_iload em241_3) rfl ?_
      refine hA_const (k := 8) (zs_bipush (v := 8) em241_5 (by decide +kernel)) (by decide +kernel) (fun z5 hz5 => ?_)
      refine hA_icmp (zs_icmpge em241_7 (t := 54) (by decide)) (fun (c7 : z5.toInt ≤ i.toInt) => ?_) (fun (c7 : ¬ z5.toInt ≤ i.toInt) => ?_)
      · refine hA_const (k := 1) (zs_iconst (v := 1) em241_54 (by decide +kernel)) (by decide +kernel) (fun z54 hz54 => ?_)
        refine hA_zreturn ⟨rfl, em241_55⟩ ⟨Nat.le_refl _, Nat.le_refl _⟩ ⟨by omega, by omega⟩ ?_
        intro a' b' c' he'
        cases he'
        exact ⟨_, rfl, ⟨by omega, by omega⟩, rfl⟩
      · refine hA_iload (zs_iload em241_10) rfl ?_
        refine hA_iload (zs_iload_n em241_12) rfl ?_
        refine hA_icmp (zs_icmpge em241_13 (t := 25) (by decide)) (fun (c13 : c.toInt ≤ i.toInt) => ?_) (fun (c13 : ¬ c.toInt ≤ i.toInt) => ?_)
        · refine hA_const (k := 32) (zs_bipush (v := 32) em241_25 (by decide +kernel)) (by decide +kernel) (fun z25 hz25 => ?_)
          refine hA_istore (L' := [some (.inl a), some (.inr (.inl (some 1))), some (.inl b), some (.inl c), some (.inl i), some (.inl z25)]) (zs_istore em241_27) ⟨Nat.le_of_ble_eq_true rfl, rfl⟩ rfl ?_
          refine hA (zs_chat (show 4 ≤ d by omega) em241_29 em241_31 em241_32 em241_34 em241_35 em241_37 em241_38) ?_
          refine ⟨rfl, ⟨by omega, by omega⟩, ⟨by omega, by omega⟩, fun z41 => ?_⟩
          refine hA_iload (zs_iload em241_41) rfl ?_
          refine hA_icmp (zs_icmpeq em241_43 (t := 48) (by decide)) (fun (c43 : z41.toInt = z25.toInt) => ?_) (fun (c43 : ¬ z41.toInt = z25.toInt) => ?_)
          · refine hA_iinc (c := 1) (zs_iinc (k := 1) em241_48 (by decide +kernel)) (by decide +kernel) rfl ⟨Nat.le_of_ble_eq_true rfl, rfl⟩ (by omega) (by omega) (fun z48 hz48 => ?_)
            show zAt _ _ _ _ _ _ _ _ _ _ [some (.inl a), some (.inr (.inl (some 1))), some (.inl b), some (.inl c), some (.inl z48), some (.inl z25)] _ _ _
            refine hA_goto (zs_goto em241_51 (t := 3) (by decide)) ?_
            refine hA_fg (L' := [some (.inl a), some (.inr (.inl (some 1))), some (.inl b), some (.inl c), some (.inl z48), none]) (by repeat (first | exact trivial | refine And.intro rfl ?_)) ?_
            exact ih _ (by omega) z48 (by omega) rfl
          · refine hA_const (k := 0) (zs_iconst (v := 0) em241_46 (by decide +kernel)) (by decide +kernel) (fun z46 hz46 => ?_)
            refine hA_zreturn ⟨rfl, em241_47⟩ ⟨Nat.le_refl _, Nat.le_refl _⟩ ⟨by omega, by omega⟩ ?_
            intro a' b' c' he'
            cases he'
            exact ⟨_, rfl, ⟨by omega, by omega⟩, rfl⟩
        · refine hA_aload (zs_aload_n em241_16) rfl ?_
          refine hA_iload (zs_iload_n em241_17) rfl ?_
          refine hA_iload (zs_iload em241_18) rfl ?_
          refine hA_add (zs_iadd em241_20) (by omega) (by omega) (fun z20 hz20 => ?_)
          refine hA_baldH (kd := 1) (len := 2000) (zs_bald em241_21) ⟨rfl, rfl, rfl, Or.inl rfl⟩ (by omega) (by show _ < ((2000 : Nat) : Int); omega) (fun z21 hz21 => ?_)
          have hbz21 : ((-128) : Int) ≤ z21.toInt ∧ z21.toInt ≤ 127 := eall rfl hz21
          refine hA_goto (zs_goto em241_22 (t := 27) (by decide)) ?_
          refine hA_istore (L' := [some (.inl a), some (.inr (.inl (some 1))), some (.inl b), some (.inl c), some (.inl i), some (.inl z21)]) (zs_istore em241_27) ⟨Nat.le_of_ble_eq_true rfl, rfl⟩ rfl ?_
          refine hA (zs_chat (show 4 ≤ d by omega) em241_29 em241_31 em241_32 em241_34 em241_35 em241_37 em241_38) ?_
          refine ⟨rfl, ⟨by omega, by omega⟩, ⟨by omega, by omega⟩, fun z41' => ?_⟩
          refine hA_iload (zs_iload em241_41) rfl ?_
          refine hA_icmp (zs_icmpeq em241_43 (t := 48) (by decide)) (fun (c43' : z41'.toInt = z21.toInt) => ?_) (fun (c43' : ¬ z41'.toInt = z21.toInt) => ?_)
          · refine hA_iinc (c := 1) (zs_iinc (k := 1) em241_48 (by decide +kernel)) (by decide +kernel) rfl ⟨Nat.le_of_ble_eq_true rfl, rfl⟩ (by omega) (by omega) (fun z48' hz48' => ?_)
            show zAt _ _ _ _ _ _ _ _ _ _ [some (.inl a), some (.inr (.inl (some 1))), some (.inl b), some (.inl c), some (.inl z48'), some (.inl z21)] _ _ _
            refine hA_goto (zs_goto em241_51 (t := 3) (by decide)) ?_
            refine hA_fg (L' := [some (.inl a), some (.inr (.inl (some 1))), some (.inl b), some (.inl c), some (.inl z48'), none]) (by repeat (first | exact trivial | refine And.intro rfl ?_)) ?_
            exact ih _ (by omega) z48' (by omega) rfl
          · refine hA_const (k := 0) (zs_iconst (v := 0) em241_46 (by decide +kernel)) (by decide +kernel) (fun z46' hz46' => ?_)
            refine hA_zreturn ⟨rfl, em241_47⟩ ⟨Nat.le_refl _, Nat.le_refl _⟩ ⟨by omega, by omega⟩ ?_
            intro a' b' c' he'
            cases he'
            exact ⟨_, rfl, ⟨by omega, by omega⟩, rfl⟩
  refine hmet (L := [some (.inl a), some (.inr (.inl (some 1))), some (.inl b), some (.inl c), none, none]) (by decide) (Nat.le_of_ble_eq_true rfl) hc rfl ?_
  refine hA_const (k := 0) (zs_iconst (v := 0) em241_0 (by decide +kernel)) (by decide +kernel) (fun z0 hz0 => ?_)
  refine hA_istore (L' := [some (.inl a), some (.inr (.inl (some 1))), some (.inl b), some (.inl c), some (.inl z0), none]) (zs_istore em241_1) ⟨Nat.le_of_ble_eq_true rfl, rfl⟩ rfl ?_
  exact loop _ z0 (by omega) rfl
