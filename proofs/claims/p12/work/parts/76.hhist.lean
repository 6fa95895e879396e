theorem em181_0 : decode prog_14_method_76_code 0 = .ok (.aload_n 0, 1) := by decide +kernel
theorem em181_1 : decode prog_14_method_76_code 1 = .ok (.getfield 248, 3) := by decide +kernel
theorem em181_4 : decode prog_14_method_76_code 4 = .ok (.bipush 30, 2) := by decide +kernel
theorem em181_6 : decode prog_14_method_76_code 6 = .ok (.if_icmp .ne 44, 3) := by decide +kernel
theorem em181_9 : decode prog_14_method_76_code 9 = .ok (.iconst 0, 1) := by decide +kernel
theorem em181_10 : decode prog_14_method_76_code 10 = .ok (.istore_n 1, 1) := by decide +kernel
theorem em181_11 : decode prog_14_method_76_code 11 = .ok (.iload_n 1, 1) := by decide +kernel
theorem em181_12 : decode prog_14_method_76_code 12 = .ok (.sipush 11310, 3) := by decide +kernel
theorem em181_15 : decode prog_14_method_76_code 15 = .ok (.if_icmp .ge 25, 3) := by decide +kernel
theorem em181_18 : decode prog_14_method_76_code 18 = .ok (.aload_n 0, 1) := by decide +kernel
theorem em181_19 : decode prog_14_method_76_code 19 = .ok (.getfield 128, 3) := by decide +kernel
theorem em181_22 : decode prog_14_method_76_code 22 = .ok (.iload_n 1, 1) := by decide +kernel
theorem em181_23 : decode prog_14_method_76_code 23 = .ok (.aload_n 0, 1) := by decide +kernel
theorem em181_24 : decode prog_14_method_76_code 24 = .ok (.getfield 128, 3) := by decide +kernel
theorem em181_27 : decode prog_14_method_76_code 27 = .ok (.iload_n 1, 1) := by decide +kernel
theorem em181_28 : decode prog_14_method_76_code 28 = .ok (.sipush 390, 3) := by decide +kernel
theorem em181_31 : decode prog_14_method_76_code 31 = .ok (.iadd, 1) := by decide +kernel
theorem em181_32 : decode prog_14_method_76_code 32 = .ok (.iaload, 1) := by decide +kernel
theorem em181_33 : decode prog_14_method_76_code 33 = .ok (.iastore, 1) := by decide +kernel
theorem em181_34 : decode prog_14_method_76_code 34 = .ok (.iinc 1 1, 3) := by decide +kernel
theorem em181_37 : decode prog_14_method_76_code 37 = .ok (.goto (-26), 3) := by decide +kernel
theorem em181_40 : decode prog_14_method_76_code 40 = .ok (.aload_n 0, 1) := by decide +kernel
theorem em181_41 : decode prog_14_method_76_code 41 = .ok (.dup, 1) := by decide +kernel
theorem em181_42 : decode prog_14_method_76_code 42 = .ok (.getfield 248, 3) := by decide +kernel
theorem em181_45 : decode prog_14_method_76_code 45 = .ok (.iconst 1, 1) := by decide +kernel
theorem em181_46 : decode prog_14_method_76_code 46 = .ok (.isub, 1) := by decide +kernel
theorem em181_47 : decode prog_14_method_76_code 47 = .ok (.putfield 248, 3) := by decide +kernel
theorem em181_50 : decode prog_14_method_76_code 50 = .ok (.iconst 0, 1) := by decide +kernel
theorem em181_51 : decode prog_14_method_76_code 51 = .ok (.istore_n 1, 1) := by decide +kernel
theorem em181_52 : decode prog_14_method_76_code 52 = .ok (.iload_n 1, 1) := by decide +kernel
theorem em181_53 : decode prog_14_method_76_code 53 = .ok (.sipush 390, 3) := by decide +kernel
theorem em181_56 : decode prog_14_method_76_code 56 = .ok (.if_icmp .ge 30, 3) := by decide +kernel
theorem em181_59 : decode prog_14_method_76_code 59 = .ok (.aload_n 0, 1) := by decide +kernel
theorem em181_60 : decode prog_14_method_76_code 60 = .ok (.getfield 128, 3) := by decide +kernel
theorem em181_63 : decode prog_14_method_76_code 63 = .ok (.sipush 390, 3) := by decide +kernel
theorem em181_66 : decode prog_14_method_76_code 66 = .ok (.aload_n 0, 1) := by decide +kernel
theorem em181_67 : decode prog_14_method_76_code 67 = .ok (.getfield 248, 3) := by decide +kernel
theorem em181_70 : decode prog_14_method_76_code 70 = .ok (.imul, 1) := by decide +kernel
theorem em181_71 : decode prog_14_method_76_code 71 = .ok (.iload_n 1, 1) := by decide +kernel
theorem em181_72 : decode prog_14_method_76_code 72 = .ok (.iadd, 1) := by decide +kernel
theorem em181_73 : decode prog_14_method_76_code 73 = .ok (.aload_n 0, 1) := by decide +kernel
theorem em181_74 : decode prog_14_method_76_code 74 = .ok (.getfield 113, 3) := by decide +kernel
theorem em181_77 : decode prog_14_method_76_code 77 = .ok (.iload_n 1, 1) := by decide +kernel
theorem em181_78 : decode prog_14_method_76_code 78 = .ok (.iaload, 1) := by decide +kernel
theorem em181_79 : decode prog_14_method_76_code 79 = .ok (.iastore, 1) := by decide +kernel
theorem em181_80 : decode prog_14_method_76_code 80 = .ok (.iinc 1 1, 3) := by decide +kernel
theorem em181_83 : decode prog_14_method_76_code 83 = .ok (.goto (-31), 3) := by decide +kernel
theorem em181_86 : decode prog_14_method_76_code 86 = .ok (.aload_n 0, 1) := by decide +kernel
theorem em181_87 : decode prog_14_method_76_code 87 = .ok (.dup, 1) := by decide +kernel
theorem em181_88 : decode prog_14_method_76_code 88 = .ok (.getfield 248, 3) := by decide +kernel
theorem em181_91 : decode prog_14_method_76_code 91 = .ok (.iconst 1, 1) := by decide +kernel
theorem em181_92 : decode prog_14_method_76_code 92 = .ok (.iadd, 1) := by decide +kernel
theorem em181_93 : decode prog_14_method_76_code 93 = .ok (.putfield 248, 3) := by decide +kernel
theorem em181_96 : decode prog_14_method_76_code 96 = .ok (.aload_n 0, 1) := by decide +kernel
theorem em181_97 : decode prog_14_method_76_code 97 = .ok (.invokevirtual 160, 3) := by decide +kernel
theorem em181_100 : decode prog_14_method_76_code 100 = .ok (.return_, 1) := by decide +kernel
set_option maxRecDepth 10000 in
set_option maxHeartbeats 4000000 in
theorem hM_208 : zOKh 208 zc_208 := by
  intro d hc as I q h hq
  obtain ⟨hd, ⟨_, _, rfl, rfl, rfl⟩, hF, hI⟩ := h
  have hd : 3 ≤ d + 1 := hd
  have hf20 : (0 : Int) ≤ zf I 20 ∧ zf I 20 ≤ (30 : Int) := hF _ List.mem_cons_self
  cases (show some _ = some q from hq)
  have loop2 : ∀ (n : Nat) (I2 : zI) (k : Int32) (hk : 0 ≤ k.toInt) (hk2 : k.toInt ≤ 390) (hu : 0 ≤ zf I2 20 ∧ zf I2 20 ≤ 29) (hI2 : ∀ id, id ≠ 20 → I2 id = I id), (390 - k.toInt).toNat = n → zAt zG0 PZ zbd zpre zpost (d, (zbd 208).1, (zbd 208).2) prog_14_method_76_code "CapitalCaseModel" (zRet prog_14_method_76_code none (zbd 208) (fun r I' => aPost zInv zc_208 [.inr (.inl (some 75))] I r I')) 52 [some (.inr (.inl (some 75))), some (.inl k)] [] I2 (0, 0) := by
    intro n
    induction n using Nat.strongRecOn with
    | ind n ih =>
      intro I2 k hk hk2 hu hI2 hn
      refine hA_iload (zs_iload_n em181_52) rfl ?_
      refine hA_const (k := 390) (zs_sipush (v := 390) em181_53 (by decide +kernel)) (by decide +kernel) (fun z53 hz53 => ?_)
      refine hA_icmp (zs_icmpge em181_56 (t := 86) (by decide)) (fun (c56 : z53.toInt ≤ k.toInt) => ?_) (fun (c56 : ¬ z53.toInt ≤ k.toInt) => ?_)
      · refine hA_aload (zs_aload_n em181_86) rfl ?_
        refine hA_dup (zs_dup em181_87) rfl ?_
        refine hA_getf0 (id := 20) (zs_getf (T := TX12) (M := 70) (ci := 12) (j := 10) em181_88 rfl inX12 (by decide) wd_1340 ((congrFun xo_12 248).trans rfl)) ⟨_, rfl, rfl⟩ (fun z88 hz88 => ?_)
        refine hA_const (k := 1) (zs_iconst (v := 1) em181_91 (by decide +kernel)) (by decide +kernel) (fun z91 hz91 => ?_)
        refine hA_add (zs_iadd em181_92) (by omega) (by omega) (fun z92 hz92 => ?_)
        refine hA_puti0 (id := 20) (zs_puti zInj0 (T := TX12) (M := 70) (ty := tyX12) (ci := 12) (j := 10) (kd := 0) em181_93 rfl inX12 tyX12_ok nmX12 (by decide) wd_1340 (Or.inl ⟨rfl, rfl⟩) rfl ((congrFun xo_12 248).trans rfl)) ⟨_, rfl, rfl⟩ (fun h => by cases h) ?_
        refine hA_aload (zs_aload_n em181_96) rfl ?_
        refine hA_callV (as := []) (rest := []) (B' := (0, 0)) (zs_invV (T := TX12) em181_97 zl_183 rfl wd_1278 wd_1280 wd_46 ((congrFun xo_12 160).trans rfl) xm_157) rfl ⟨_, rfl⟩ (Nat.le_of_ble_eq_true rfl) rfl ⟨Nat.zero_le _, Nat.zero_le _⟩ (zpre_of zh_183 ⟨(by show 1 ≤ d; omega), ⟨_, _, rfl, rfl, rfl⟩, hF_nil, fun h => by cases h⟩) (fun r97 I97 hp97 => ?_)
        replace hp97 := zpost_of zh_183 hp97
        obtain ⟨rfl, rfl⟩ := zq_183 hp97
        refine hA_return ⟨rfl, em181_100⟩ ⟨Nat.le_refl _, Nat.le_refl _⟩ ?_
        exact ⟨⟨_, List.mem_cons_self, rfl, (hCh_cons (fun k hk => none_no hk) ⟨by rw [zf_same]; omega, by rw [zf_same]; omega⟩ hCh_nil), (fun id hl hn => (zupd_fr (fun e => by subst e; exact hn _ List.mem_cons_self)).trans (hI2 id (fun e => by subst e; exact hn _ List.mem_cons_self))), (fun _ h => absurd h List.not_mem_nil)⟩, (fun h => by cases h), (fun _ id hid => (zupd_hi (by decide) hid).trans (hI2 id (by omega)))⟩
      · refine hA_aload (zs_aload_n em181_59) rfl ?_
        refine hA_getf2 (r := 112) (zs_getf (T := TX12) (M := 70) (ci := 12) (j := 11) em181_60 rfl inX12 (by decide) wd_1341 ((congrFun xo_12 128).trans rfl)) ⟨_, rfl, rfl⟩ ?_
        refine hA_const (k := 390) (zs_sipush (v := 390) em181_63 (by decide +kernel)) (by decide +kernel) (fun z63 hz63 => ?_)
        refine hA_aload (zs_aload_n em181_66) rfl ?_
        refine hA_getf0 (id := 20) (zs_getf (T := TX12) (M := 70) (ci := 12) (j := 10) em181_67 rfl inX12 (by decide) wd_1340 ((congrFun xo_12 248).trans rfl)) ⟨_, rfl, rfl⟩ (fun z67 hz67 => ?_)
        refine hA_mull (c := 390) (zs_imul em181_70) hz63 (by omega) (by omega) (fun z70 hz70 => ?_)
        refine hA_iload (zs_iload_n em181_71) rfl ?_
        refine hA_add (zs_iadd em181_72) (by omega) (by omega) (fun z72 hz72 => ?_)
        refine hA_aload (zs_aload_n em181_73) rfl ?_
        refine hA_getf2 (r := 107) (zs_getf (T := TX12) (M := 70) (ci := 12) (j := 1) em181_74 rfl inX12 (by decide) wd_1331 ((congrFun xo_12 113).trans rfl)) ⟨_, rfl, rfl⟩ ?_
        refine hA_iload (zs_iload_n em181_77) rfl ?_
        refine hA_ialdH (kd := 107) (len := 390) (zs_iald em181_78) ⟨rfl, rfl, rfl⟩ (by omega) (by show _ < ((390 : Nat) : Int); omega) (fun z78 hz78 => ?_)
        refine hA_iastH (kd := 112) (len := 11700) (zs_iast zInj0 em181_79) ⟨rfl, rfl, rfl⟩ (by omega) (by show _ < ((11700 : Nat) : Int); omega) (erow rfl (by show _ % 390 = _ % 390; omega) hz78) ?_
        refine hA_iinc (c := 1) (zs_iinc (k := 1) em181_80 (by decide +kernel)) (by decide +kernel) rfl ⟨Nat.le_of_ble_eq_true rfl, rfl⟩ (by omega) (by omega) (fun z80 hz80 => ?_)
        show zAt _ _ _ _ _ _ _ _ _ _ [some (.inr (.inl (some 75))), some (.inl z80)] _ _ _
        refine hA_goto (zs_goto em181_83 (t := 52) (by decide)) ?_
        exact ih _ (by omega) I2 z80 (by omega) (by omega) hu hI2 rfl
  have loop1 : ∀ (n : Nat) (k : Int32) (hk : 0 ≤ k.toInt) (hk2 : k.toInt ≤ 11310) (hu : zf I 20 = 30), (11310 - k.toInt).toNat = n → zAt zG0 PZ zbd zpre zpost (d, (zbd 208).1, (zbd 208).2) prog_14_method_76_code "CapitalCaseModel" (zRet prog_14_method_76_code none (zbd 208) (fun r I' => aPost zInv zc_208 [.inr (.inl (some 75))] I r I')) 11 [some (.inr (.inl (some 75))), some (.inl k)] [] I (0, 0) := by
    intro n
    induction n using Nat.strongRecOn with
    | ind n ih =>
      intro k hk hk2 hu hn
      refine hA_iload (zs_iload_n em181_11) rfl ?_
      refine hA_const (k := 11310) (zs_sipush (v := 11310) em181_12 (by decide +kernel)) (by decide +kernel) (fun z12 hz12 => ?_)
      refine hA_icmp (zs_icmpge em181_15 (t := 40) (by decide)) (fun (c15 : z12.toInt ≤ k.toInt) => ?_) (fun (c15 : ¬ z12.toInt ≤ k.toInt) => ?_)
      · refine hA_aload (zs_aload_n em181_40) rfl ?_
        refine hA_dup (zs_dup em181_41) rfl ?_
        refine hA_getf0 (id := 20) (zs_getf (T := TX12) (M := 70) (ci := 12) (j := 10) em181_42 rfl inX12 (by decide) wd_1340 ((congrFun xo_12 248).trans rfl)) ⟨_, rfl, rfl⟩ (fun z42 hz42 => ?_)
        refine hA_const (k := 1) (zs_iconst (v := 1) em181_45 (by decide +kernel)) (by decide +kernel) (fun z45 hz45 => ?_)
        refine hA_sub (zs_isub em181_46) (by omega) (by omega) (fun z46 hz46 => ?_)
        refine hA_puti0 (id := 20) (zs_puti zInj0 (T := TX12) (M := 70) (ty := tyX12) (ci := 12) (j := 10) (kd := 0) em181_47 rfl inX12 tyX12_ok nmX12 (by decide) wd_1340 (Or.inl ⟨rfl, rfl⟩) rfl ((congrFun xo_12 248).trans rfl)) ⟨_, rfl, rfl⟩ (fun h => by cases h) ?_
        refine hA_const (k := 0) (zs_iconst (v := 0) em181_50 (by decide +kernel)) (by decide +kernel) (fun z50 hz50 => ?_)
        refine hA_istore (L' := [some (.inr (.inl (some 75))), some (.inl z50)]) (zs_istore_n em181_51) ⟨Nat.le_of_ble_eq_true rfl, rfl⟩ rfl ?_
        exact loop2 _ (zupd I 20 z46) z50 (by omega) (by omega) ⟨by rw [zf_same]; omega, by rw [zf_same]; omega⟩ (fun id h => zupd_fr h) rfl
      · refine hA_aload (zs_aload_n em181_18) rfl ?_
        refine hA_getf2 (r := 112) (zs_getf (T := TX12) (M := 70) (ci := 12) (j := 11) em181_19 rfl inX12 (by decide) wd_1341 ((congrFun xo_12 128).trans rfl)) ⟨_, rfl, rfl⟩ ?_
        refine hA_iload (zs_iload_n em181_22) rfl ?_
        refine hA_aload (zs_aload_n em181_23) rfl ?_
        refine hA_getf2 (r := 112) (zs_getf (T := TX12) (M := 70) (ci := 12) (j := 11) em181_24 rfl inX12 (by decide) wd_1341 ((congrFun xo_12 128).trans rfl)) ⟨_, rfl, rfl⟩ ?_
        refine hA_iload (zs_iload_n em181_27) rfl ?_
        refine hA_const (k := 390) (zs_sipush (v := 390) em181_28 (by decide +kernel)) (by decide +kernel) (fun z28 hz28 => ?_)
        refine hA_add (zs_iadd em181_31) (by omega) (by omega) (fun z31 hz31 => ?_)
        refine hA_ialdH (kd := 112) (len := 11700) (zs_iald em181_32) ⟨rfl, rfl, rfl⟩ (by omega) (by show _ < ((11700 : Nat) : Int); omega) (fun z32 hz32 => ?_)
        refine hA_iastH (kd := 112) (len := 11700) (zs_iast zInj0 em181_33) ⟨rfl, rfl, rfl⟩ (by omega) (by show _ < ((11700 : Nat) : Int); omega) (erow rfl (by show _ % 390 = _ % 390; omega) hz32) ?_
        refine hA_iinc (c := 1) (zs_iinc (k := 1) em181_34 (by decide +kernel)) (by decide +kernel) rfl ⟨Nat.le_of_ble_eq_true rfl, rfl⟩ (by omega) (by omega) (fun z34 hz34 => ?_)
        show zAt _ _ _ _ _ _ _ _ _ _ [some (.inr (.inl (some 75))), some (.inl z34)] _ _ _
        refine hA_goto (zs_goto em181_37 (t := 11) (by decide)) ?_
        exact ih _ (by omega) z34 (by omega) (by omega) hu rfl
  refine hmet (L := [some (.inr (.inl (some 75))), none]) (by decide) (Nat.le_of_ble_eq_true rfl) hc rfl ?_
  refine hA_aload (zs_aload_n em181_0) rfl ?_
  refine hA_getf0 (id := 20) (zs_getf (T := TX12) (M := 70) (ci := 12) (j := 10) em181_1 rfl inX12 (by decide) wd_1340 ((congrFun xo_12 248).trans rfl)) ⟨_, rfl, rfl⟩ (fun z1 hz1 => ?_)
  refine hA_const (k := 30) (zs_bipush (v := 30) em181_4 (by decide +kernel)) (by decide +kernel) (fun z4 hz4 => ?_)
  refine hA_icmp (zs_icmpne em181_6 (t := 50) (by decide)) (fun (c6 : ¬ z1.toInt = z4.toInt) => ?_) (fun (c6 : ¬ ¬ z1.toInt = z4.toInt) => ?_)
  · refine hA_const (k := 0) (zs_iconst (v := 0) em181_50 (by decide +kernel)) (by decide +kernel) (fun z50 hz50 => ?_)
    refine hA_istore (L' := [some (.inr (.inl (some 75))), some (.inl z50)]) (zs_istore_n em181_51) ⟨Nat.le_of_ble_eq_true rfl, rfl⟩ rfl ?_
    exact loop2 _ I z50 (by omega) (by omega) ⟨by omega, by omega⟩ (fun id h => rfl) rfl
  · refine hA_const (k := 0) (zs_iconst (v := 0) em181_9 (by decide +kernel)) (by decide +kernel) (fun z9 hz9 => ?_)
    refine hA_istore (L' := [some (.inr (.inl (some 75))), some (.inl z9)]) (zs_istore_n em181_10) ⟨Nat.le_of_ble_eq_true rfl, rfl⟩ rfl ?_
    exact loop1 _ z9 (by omega) (by omega) (by omega) rfl
theorem em194_0 : decode prog_14_method_83_code 0 = .ok (.aload_n 0, 1) := by decide +kernel
theorem em194_1 : decode prog_14_method_83_code 1 = .ok (.getfield 248, 3) := by decide +kernel
theorem em194_4 : decode prog_14_method_83_code 4 = .ok (.ifCond .ne 5, 3) := by decide +kernel
theorem em194_7 : decode prog_14_method_83_code 7 = .ok (.iconst 0, 1) := by decide +kernel
theorem em194_8 : decode prog_14_method_83_code 8 = .ok (.ireturn, 1) := by decide +kernel
theorem em194_9 : decode prog_14_method_83_code 9 = .ok (.aload_n 0, 1) := by decide +kernel
theorem em194_10 : decode prog_14_method_83_code 10 = .ok (.dup, 1) := by decide +kernel
theorem em194_11 : decode prog_14_method_83_code 11 = .ok (.getfield 248, 3) := by decide +kernel
theorem em194_14 : decode prog_14_method_83_code 14 = .ok (.iconst 1, 1) := by decide +kernel
theorem em194_15 : decode prog_14_method_83_code 15 = .ok (.isub, 1) := by decide +kernel
theorem em194_16 : decode prog_14_method_83_code 16 = .ok (.putfield 248, 3) := by decide +kernel
theorem em194_19 : decode prog_14_method_83_code 19 = .ok (.iconst 0, 1) := by decide +kernel
theorem em194_20 : decode prog_14_method_83_code 20 = .ok (.istore_n 1, 1) := by decide +kernel
theorem em194_21 : decode prog_14_method_83_code 21 = .ok (.iload_n 1, 1) := by decide +kernel
theorem em194_22 : decode prog_14_method_83_code 22 = .ok (.sipush 390, 3) := by decide +kernel
theorem em194_25 : decode prog_14_method_83_code 25 = .ok (.if_icmp .ge 30, 3) := by decide +kernel
theorem em194_28 : decode prog_14_method_83_code 28 = .ok (.aload_n 0, 1) := by decide +kernel
theorem em194_29 : decode prog_14_method_83_code 29 = .ok (.getfield 113, 3) := by decide +kernel
theorem em194_32 : decode prog_14_method_83_code 32 = .ok (.iload_n 1, 1) := by decide +kernel
theorem em194_33 : decode prog_14_method_83_code 33 = .ok (.aload_n 0, 1) := by decide +kernel
theorem em194_34 : decode prog_14_method_83_code 34 = .ok (.getfield 128, 3) := by decide +kernel
theorem em194_37 : decode prog_14_method_83_code 37 = .ok (.sipush 390, 3) := by decide +kernel
theorem em194_40 : decode prog_14_method_83_code 40 = .ok (.aload_n 0, 1) := by decide +kernel
theorem em194_41 : decode prog_14_method_83_code 41 = .ok (.getfield 248, 3) := by decide +kernel
theorem em194_44 : decode prog_14_method_83_code 44 = .ok (.imul, 1) := by decide +kernel
theorem em194_45 : decode prog_14_method_83_code 45 = .ok (.iload_n 1, 1) := by decide +kernel
theorem em194_46 : decode prog_14_method_83_code 46 = .ok (.iadd, 1) := by decide +kernel
theorem em194_47 : decode prog_14_method_83_code 47 = .ok (.iaload, 1) := by decide +kernel
theorem em194_48 : decode prog_14_method_83_code 48 = .ok (.iastore, 1) := by decide +kernel
theorem em194_49 : decode prog_14_method_83_code 49 = .ok (.iinc 1 1, 3) := by decide +kernel
theorem em194_52 : decode prog_14_method_83_code 52 = .ok (.goto (-31), 3) := by decide +kernel
theorem em194_55 : decode prog_14_method_83_code 55 = .ok (.iconst 1, 1) := by decide +kernel
theorem em194_56 : decode prog_14_method_83_code 56 = .ok (.ireturn, 1) := by decide +kernel
set_option maxRecDepth 10000 in
set_option maxHeartbeats 4000000 in
theorem hM_221 : zOKh 221 zc_221 := by
  intro d hc as I q h hq
  obtain ⟨hd, ⟨_, _, rfl, rfl, rfl⟩, hF, hI⟩ := h
  have hd : 4 ≤ d + 1 := hd
  have hf20 : (0 : Int) ≤ zf I 20 ∧ zf I 20 ≤ (30 : Int) := hF _ List.mem_cons_self
  cases (show some _ = some q from hq)
  have loop : ∀ (n : Nat) (v : Int32) (hv : v.toInt = zf I 20 - 1) (hv0 : 0 ≤ v.toInt) (k : Int32) (hk : 0 ≤ k.toInt) (hk2 : k.toInt ≤ 390), (390 - k.toInt).toNat = n → zAt zG0 PZ zbd zpre zpost (d, (zbd 221).1, (zbd 221).2) prog_14_method_83_code "CapitalCaseModel" (zRet prog_14_method_83_code (some .boolean) (zbd 221) (fun r I' => aPost zInv zc_221 [.inr (.inl (some 75))] I r I')) 21 [some (.inr (.inl (some 75))), some (.inl k)] [] (zupd I 20 v) (0, 0) := by
    intro n
    induction n using Nat.strongRecOn with
    | ind n ih =>
      intro v hv hv0 k hk hk2 hn
      refine hA_iload (zs_iload_n em194_21) rfl ?_
      refine hA_const (k := 390) (zs_sipush (v := 390) em194_22 (by decide +kernel)) (by decide +kernel) (fun z22 hz22 => ?_)
      refine hA_icmp (zs_icmpge em194_25 (t := 55) (by decide)) (fun (c25 : z22.toInt ≤ k.toInt) => ?_) (fun (c25 : ¬ z22.toInt ≤ k.toInt) => ?_)
      · refine hA_const (k := 1) (zs_iconst (v := 1) em194_55 (by decide +kernel)) (by decide +kernel) (fun z55 hz55 => ?_)
        refine hA_zreturn ⟨rfl, em194_56⟩ ⟨Nat.le_refl _, Nat.le_refl _⟩ ⟨by omega, by omega⟩ ?_
        exact ⟨⟨_, (List.mem_cons_of_mem _ List.mem_cons_self), ⟨_, rfl, show (1 : Int) ≤ _ by omega, show _ ≤ (1 : Int) by omega⟩, (hCh_cons (fun k hk => by rw [some_eq hk]; rw [zf_same]; omega) ⟨by rw [zf_same]; omega, by rw [zf_same]; omega⟩ hCh_nil), (fun id hl hn => ((zupd_fr (fun e => by subst e; exact hn _ List.mem_cons_self)).trans (rfl))), (fun _ h => absurd h List.not_mem_nil)⟩, (fun h => by cases h), (fun _ id hid => ((zupd_hi (by decide) hid).trans (rfl)))⟩
      · refine hA_aload (zs_aload_n em194_28) rfl ?_
        refine hA_getf2 (r := 107) (zs_getf (T := TX12) (M := 70) (ci := 12) (j := 1) em194_29 rfl inX12 (by decide) wd_1331 ((congrFun xo_12 113).trans rfl)) ⟨_, rfl, rfl⟩ ?_
        refine hA_iload (zs_iload_n em194_32) rfl ?_
        refine hA_aload (zs_aload_n em194_33) rfl ?_
        refine hA_getf2 (r := 112) (zs_getf (T := TX12) (M := 70) (ci := 12) (j := 11) em194_34 rfl inX12 (by decide) wd_1341 ((congrFun xo_12 128).trans rfl)) ⟨_, rfl, rfl⟩ ?_
        refine hA_const (k := 390) (zs_sipush (v := 390) em194_37 (by decide +kernel)) (by decide +kernel) (fun z37 hz37 => ?_)
        refine hA_aload (zs_aload_n em194_40) rfl ?_
        refine hA_getf0 (id := 20) (zs_getf (T := TX12) (M := 70) (ci := 12) (j := 10) em194_41 rfl inX12 (by decide) wd_1340 ((congrFun xo_12 248).trans rfl)) ⟨_, rfl, rfl⟩ (fun z41 hz41 => ?_)
        rw [zf_same] at hz41
        refine hA_mull (c := 390) (zs_imul em194_44) hz37 (by omega) (by omega) (fun z44 hz44 => ?_)
        refine hA_iload (zs_iload_n em194_45) rfl ?_
        refine hA_add (zs_iadd em194_46) (by omega) (by omega) (fun z46 hz46 => ?_)
        refine hA_ialdH (kd := 112) (len := 11700) (zs_iald em194_47) ⟨rfl, rfl, rfl⟩ (by omega) (by show _ < ((11700 : Nat) : Int); omega) (fun z47 hz47 => ?_)
        refine hA_iastH (kd := 107) (len := 390) (zs_iast zInj0 em194_48) ⟨rfl, rfl, rfl⟩ (by omega) (by show _ < ((390 : Nat) : Int); omega) (erow rfl (by show _ % 390 = _ % 390; omega) hz47) ?_
        refine hA_iinc (c := 1) (zs_iinc (k := 1) em194_49 (by decide +kernel)) (by decide +kernel) rfl ⟨Nat.le_of_ble_eq_true rfl, rfl⟩ (by omega) (by omega) (fun z49 hz49 => ?_)
        show zAt _ _ _ _ _ _ _ _ _ _ [some (.inr (.inl (some 75))), some (.inl z49)] _ _ _
        refine hA_goto (zs_goto em194_52 (t := 21) (by decide)) ?_
        exact ih _ (by omega) v hv hv0 z49 (by omega) (by omega) rfl
  refine hmet (L := [some (.inr (.inl (some 75))), none]) (by decide) (Nat.le_of_ble_eq_true rfl) hc rfl ?_
  refine hA_aload (zs_aload_n em194_0) rfl ?_
  refine hA_getf0 (id := 20) (zs_getf (T := TX12) (M := 70) (ci := 12) (j := 10) em194_1 rfl inX12 (by decide) wd_1340 ((congrFun xo_12 248).trans rfl)) ⟨_, rfl, rfl⟩ (fun z1 hz1 => ?_)
  refine hA_if (zs_ifne em194_4 (t := 9) (by decide)) (fun (c4 : ¬ z1.toInt = 0) => ?_) (fun (c4 : ¬ ¬ z1.toInt = 0) => ?_)
  · refine hA_aload (zs_aload_n em194_9) rfl ?_
    refine hA_dup (zs_dup em194_10) rfl ?_
    refine hA_getf0 (id := 20) (zs_getf (T := TX12) (M := 70) (ci := 12) (j := 10) em194_11 rfl inX12 (by decide) wd_1340 ((congrFun xo_12 248).trans rfl)) ⟨_, rfl, rfl⟩ (fun z11 hz11 => ?_)
    refine hA_const (k := 1) (zs_iconst (v := 1) em194_14 (by decide +kernel)) (by decide +kernel) (fun z14 hz14 => ?_)
    refine hA_sub (zs_isub em194_15) (by omega) (by omega) (fun z15 hz15 => ?_)
    refine hA_puti0 (id := 20) (zs_puti zInj0 (T := TX12) (M := 70) (ty := tyX12) (ci := 12) (j := 10) (kd := 0) em194_16 rfl inX12 tyX12_ok nmX12 (by decide) wd_1340 (Or.inl ⟨rfl, rfl⟩) rfl ((congrFun xo_12 248).trans rfl)) ⟨_, rfl, rfl⟩ (fun h => by cases h) ?_
    refine hA_const (k := 0) (zs_iconst (v := 0) em194_19 (by decide +kernel)) (by decide +kernel) (fun z19 hz19 => ?_)
    refine hA_istore (L' := [some (.inr (.inl (some 75))), some (.inl z19)]) (zs_istore_n em194_20) ⟨Nat.le_of_ble_eq_true rfl, rfl⟩ rfl ?_
    exact loop _ z15 (by omega) (by omega) z19 (by omega) (by omega) rfl
  · refine hA_const (k := 0) (zs_iconst (v := 0) em194_7 (by decide +kernel)) (by decide +kernel) (fun z7 hz7 => ?_)
    refine hA_zreturn ⟨rfl, em194_8⟩ ⟨Nat.le_refl _, Nat.le_refl _⟩ ⟨by omega, by omega⟩ ?_
    exact ⟨⟨_, List.mem_cons_self, ⟨_, rfl, show (0 : Int) ≤ _ by omega, show _ ≤ (0 : Int) by omega⟩, hCh_nil, (fun id hl hn => rfl), (fun _ h => absurd h List.not_mem_nil)⟩, (fun h => by cases h), (fun _ id hid => rfl)⟩
set_option maxRecDepth 10000 in
set_option maxHeartbeats 4000000 in
theorem hM_288 : zOKx 288 := by
  intro d hc as I q h hq
  have h : hpr_288 (d + 1) as I := h
  obtain ⟨hd, a, b, c, rfl, hpre⟩ := h
  cases (show some _ = some q from hq)
  refine hmet (L := [some (.inl a), some (.inl b), some (.inl c)]) (by decide) (Nat.le_of_ble_eq_true rfl) hc rfl ?_
  refine hA_iload (zs_iload_n em148_0) rfl ?_
  refine hA_iload (zs_iload_n em148_1) rfl ?_
  refine hA_icmp (zs_icmplt em148_2 (t := 14) (by decide)) (fun (c2 : a.toInt < b.toInt) => ?_) (fun (c2 : ¬ a.toInt < b.toInt) => ?_)
  · refine hA_const (k := 0) (zs_iconst (v := 0) em148_14 (by decide +kernel)) (by decide +kernel) (fun z14 hz14 => ?_)
    refine hA_zreturn ⟨rfl, em148_15⟩ ⟨Nat.le_refl _, Nat.le_refl _⟩ ⟨by omega, by omega⟩ ?_
    intro a' b' c' he
    cases he
    exact ⟨_, rfl, rfl, by omega⟩
  · refine hA_iload (zs_iload_n em148_5) rfl ?_
    refine hA_iload (zs_iload_n em148_6) rfl ?_
    refine hA_icmp (zs_icmpgt em148_7 (t := 14) (by decide)) (fun (c7 : c.toInt < a.toInt) => ?_) (fun (c7 : ¬ c.toInt < a.toInt) => ?_)
    · refine hA_const (k := 0) (zs_iconst (v := 0) em148_14 (by decide +kernel)) (by decide +kernel) (fun z14' hz14' => ?_)
      refine hA_zreturn ⟨rfl, em148_15⟩ ⟨Nat.le_refl _, Nat.le_refl _⟩ ⟨by omega, by omega⟩ ?_
      intro a' b' c' he
      cases he
      exact ⟨_, rfl, rfl, by omega⟩
    · refine hA_const (k := 1) (zs_iconst (v := 1) em148_10 (by decide +kernel)) (by decide +kernel) (fun z10 hz10 => ?_)
      refine hA_goto (zs_goto em148_11 (t := 15) (by decide)) ?_
      refine hA_zreturn ⟨rfl, em148_15⟩ ⟨Nat.le_refl _, Nat.le_refl _⟩ ⟨by omega, by omega⟩ ?_
      intro a' b' c' he
      cases he
      exact ⟨_, rfl, rfl, by omega⟩
theorem em146_0 : decode prog_14_method_111_code 0 = .ok (.iload_n 1, 1) := by decide +kernel
theorem em146_1 : decode prog_14_method_111_code 1 = .ok (.iconst 0, 1) := by decide +kernel
theorem em146_2 : decode prog_14_method_111_code 2 = .ok (.iconst 2, 1) := by decide +kernel
theorem em146_3 : decode prog_14_method_111_code 3 = .ok (.invokestatic 324, 3) := by decide +kernel
theorem em146_6 : decode prog_14_method_111_code 6 = .ok (.ifCond .ne 5, 3) := by decide +kernel
theorem em146_9 : decode prog_14_method_111_code 9 = .ok (.iconst 0, 1) := by decide +kernel
theorem em146_10 : decode prog_14_method_111_code 10 = .ok (.ireturn, 1) := by decide +kernel
theorem em146_11 : decode prog_14_method_111_code 11 = .ok (.aload_n 0, 1) := by decide +kernel
theorem em146_12 : decode prog_14_method_111_code 12 = .ok (.getfield 143, 3) := by decide +kernel
theorem em146_15 : decode prog_14_method_111_code 15 = .ok (.iload_n 1, 1) := by decide +kernel
theorem em146_16 : decode prog_14_method_111_code 16 = .ok (.iconst 1, 1) := by decide +kernel
theorem em146_17 : decode prog_14_method_111_code 17 = .ok (.bastore, 1) := by decide +kernel
theorem em146_18 : decode prog_14_method_111_code 18 = .ok (.iconst 0, 1) := by decide +kernel
theorem em146_19 : decode prog_14_method_111_code 19 = .ok (.istore_n 2, 1) := by decide +kernel
theorem em146_20 : decode prog_14_method_111_code 20 = .ok (.iload_n 2, 1) := by decide +kernel
theorem em146_21 : decode prog_14_method_111_code 21 = .ok (.sipush 390, 3) := by decide +kernel
theorem em146_24 : decode prog_14_method_111_code 24 = .ok (.if_icmp .ge 27, 3) := by decide +kernel
theorem em146_27 : decode prog_14_method_111_code 27 = .ok (.aload_n 0, 1) := by decide +kernel
theorem em146_28 : decode prog_14_method_111_code 28 = .ok (.getfield 146, 3) := by decide +kernel
theorem em146_31 : decode prog_14_method_111_code 31 = .ok (.sipush 390, 3) := by decide +kernel
theorem em146_34 : decode prog_14_method_111_code 34 = .ok (.iload_n 1, 1) := by decide +kernel
theorem em146_35 : decode prog_14_method_111_code 35 = .ok (.imul, 1) := by decide +kernel
theorem em146_36 : decode prog_14_method_111_code 36 = .ok (.iload_n 2, 1) := by decide +kernel
theorem em146_37 : decode prog_14_method_111_code 37 = .ok (.iadd, 1) := by decide +kernel
theorem em146_38 : decode prog_14_method_111_code 38 = .ok (.aload_n 0, 1) := by decide +kernel
theorem em146_39 : decode prog_14_method_111_code 39 = .ok (.getfield 113, 3) := by decide +kernel
theorem em146_42 : decode prog_14_method_111_code 42 = .ok (.iload_n 2, 1) := by decide +kernel
theorem em146_43 : decode prog_14_method_111_code 43 = .ok (.iaload, 1) := by decide +kernel
theorem em146_44 : decode prog_14_method_111_code 44 = .ok (.iastore, 1) := by decide +kernel
theorem em146_45 : decode prog_14_method_111_code 45 = .ok (.iinc 2 1, 3) := by decide +kernel
theorem em146_48 : decode prog_14_method_111_code 48 = .ok (.goto (-28), 3) := by decide +kernel
theorem em146_51 : decode prog_14_method_111_code 51 = .ok (.iconst 1, 1) := by decide +kernel
theorem em146_52 : decode prog_14_method_111_code 52 = .ok (.ireturn, 1) := by decide +kernel
set_option maxRecDepth 10000 in
set_option maxHeartbeats 4000000 in
theorem hM_153 : zOKh 153 zc_153 := by
  intro d hc as I q h hq
  obtain ⟨hd, ⟨_, _, rfl, rfl, ⟨_, _, rfl, ⟨x1, rfl, hx1, hx1b⟩, rfl⟩⟩, hF, hI⟩ := h
  have hd : 8 ≤ d + 1 := hd
  have hx1 : ((-2147483648) : Int) ≤ x1.toInt := hx1
  have hx1b : x1.toInt ≤ (2147483647 : Int) := hx1b
  cases (show some _ = some q from hq)
  have loop : ∀ (n : Nat) (k : Int32) (hk : 0 ≤ k.toInt) (hk2 : k.toInt ≤ 390) (hx : 0 ≤ x1.toInt ∧ x1.toInt ≤ 2), (390 - k.toInt).toNat = n → zAt zG0 PZ zbd zpre zpost (d, (zbd 153).1, (zbd 153).2) prog_14_method_111_code "CapitalCaseModel" (zRet prog_14_method_111_code (some .boolean) (zbd 153) (fun r I' => aPost zInv zc_153 [.inr (.inl (some 75)), .inl x1] I r I')) 20 [some (.inr (.inl (some 75))), some (.inl x1), some (.inl k)] [] I (0, 0) := by
    intro n
    induction n using Nat.strongRecOn with
    | ind n ih =>
      intro k hk hk2 hx hn
      refine hA_iload (zs_iload_n em146_20) rfl ?_
      refine hA_const (k := 390) (zs_sipush (v := 390) em146_21 (by decide +kernel)) (by decide +kernel) (fun z21 hz21 => ?_)
      refine hA_icmp (zs_icmpge em146_24 (t := 51) (by decide)) (fun (c24 : z21.toInt ≤ k.toInt) => ?_) (fun (c24 : ¬ z21.toInt ≤ k.toInt) => ?_)
      · refine hA_const (k := 1) (zs_iconst (v := 1) em146_51 (by decide +kernel)) (by decide +kernel) (fun z51 hz51 => ?_)
        refine hA_zreturn ⟨rfl, em146_52⟩ ⟨Nat.le_refl _, Nat.le_refl _⟩ ⟨by omega, by omega⟩ ?_
        exact ⟨⟨_, List.mem_cons_self, ⟨_, rfl, show (1 : Int) ≤ _ by omega, show _ ≤ (1 : Int) by omega⟩, hCh_nil, (fun id hl hn => rfl), (List.forall_mem_cons.mpr ⟨⟨_, rfl, show (0 : Int) ≤ _ by omega, show _ ≤ (2 : Int) by omega⟩, fun _ h => absurd h List.not_mem_nil⟩)⟩, (fun h => by cases h), (fun _ id hid => rfl)⟩
      · refine hA_aload (zs_aload_n em146_27) rfl ?_
        refine hA_getf2 (r := 118) (zs_getf (T := TX12) (M := 70) (ci := 12) (j := 69) em146_28 rfl inX12 (by decide) wd_1350 ((congrFun xo_12 146).trans rfl)) ⟨_, rfl, rfl⟩ ?_
        refine hA_const (k := 390) (zs_sipush (v := 390) em146_31 (by decide +kernel)) (by decide +kernel) (fun z31 hz31 => ?_)
        refine hA_iload (zs_iload_n em146_34) rfl ?_
        refine hA_mull (c := 390) (zs_imul em146_35) hz31 (by omega) (by omega) (fun z35 hz35 => ?_)
        refine hA_iload (zs_iload_n em146_36) rfl ?_
        refine hA_add (zs_iadd em146_37) (by omega) (by omega) (fun z37 hz37 => ?_)
        refine hA_aload (zs_aload_n em146_38) rfl ?_
        refine hA_getf2 (r := 107) (zs_getf (T := TX12) (M := 70) (ci := 12) (j := 1) em146_39 rfl inX12 (by decide) wd_1331 ((congrFun xo_12 113).trans rfl)) ⟨_, rfl, rfl⟩ ?_
        refine hA_iload (zs_iload_n em146_42) rfl ?_
        refine hA_ialdH (kd := 107) (len := 390) (zs_iald em146_43) ⟨rfl, rfl, rfl⟩ (by omega) (by show _ < ((390 : Nat) : Int); omega) (fun z43 hz43 => ?_)
        refine hA_iastH (kd := 118) (len := 1170) (zs_iast zInj0 em146_44) ⟨rfl, rfl, rfl⟩ (by omega) (by show _ < ((1170 : Nat) : Int); omega) (erow rfl (by show _ % 390 = _ % 390; omega) hz43) ?_
        refine hA_iinc (c := 1) (zs_iinc (k := 1) em146_45 (by decide +kernel)) (by decide +kernel) rfl ⟨Nat.le_of_ble_eq_true rfl, rfl⟩ (by omega) (by omega) (fun z45 hz45 => ?_)
        show zAt _ _ _ _ _ _ _ _ _ _ [some (.inr (.inl (some 75))), some (.inl x1), some (.inl z45)] _ _ _
        refine hA_goto (zs_goto em146_48 (t := 20) (by decide)) ?_
        exact ih _ (by omega) z45 (by omega) (by omega) hx rfl
  refine hmet (L := [some (.inr (.inl (some 75))), some (.inl x1), none]) (by decide) (Nat.le_of_ble_eq_true rfl) hc rfl ?_
  refine hA_iload (zs_iload_n em146_0) rfl ?_
  refine hA_const (k := 0) (zs_iconst (v := 0) em146_1 (by decide +kernel)) (by decide +kernel) (fun z1 hz1 => ?_)
  refine hA_const (k := 2) (zs_iconst (v := 2) em146_2 (by decide +kernel)) (by decide +kernel) (fun z2 hz2 => ?_)
  refine hA_call (as := [.inl x1, .inl z1, .inl z2]) (rest := []) (B' := (0, 0)) (zs_invS em146_3 zl_288 wd_1629 wd_1630 ((congrFun xo_12 324).trans rfl) xm_148) rfl (Nat.le_of_ble_eq_true rfl) rfl ⟨Nat.zero_le _, Nat.zero_le _⟩ (hpre_of rfl (show hpr_288 d [.inl x1, .inl z1, .inl z2] I from ⟨by show 1 ≤ d; omega, x1, z1, z2, rfl, trivial⟩)) (fun r3 I3 hp3 => ?_)
  replace hp3 : hpo_288 _ _ _ _ := hpost_of rfl hp3
  replace hp3 := hp3 x1 z1 z2 rfl
  obtain ⟨y3, rfl, rfl, hy3⟩ := hp3
  refine hA_if (zs_ifne em146_6 (t := 11) (by decide)) (fun (c6 : ¬ y3.toInt = 0) => ?_) (fun (c6 : ¬ ¬ y3.toInt = 0) => ?_)
  · refine hA_aload (zs_aload_n em146_11) rfl ?_
    refine hA_getf2 (r := 117) (zs_getf (T := TX12) (M := 70) (ci := 12) (j := 68) em146_12 rfl inX12 (by decide) wd_1349 ((congrFun xo_12 143).trans rfl)) ⟨_, rfl, rfl⟩ ?_
    refine hA_iload (zs_iload_n em146_15) rfl ?_
    refine hA_const (k := 1) (zs_iconst (v := 1) em146_16 (by decide +kernel)) (by decide +kernel) (fun z16 hz16 => ?_)
    refine hA_zastH (kd := 117) (len := 3) (zs_bast zInj0 em146_17) ⟨rfl, rfl, rfl⟩ (by omega) (by show _ < ((3 : Nat) : Int); omega) (by omega) (by omega) (eal rfl (by show (0 : Int) ≤ _; omega) (by show _ ≤ (1 : Int); omega)) ?_
    refine hA_const (k := 0) (zs_iconst (v := 0) em146_18 (by decide +kernel)) (by decide +kernel) (fun z18 hz18 => ?_)
    refine hA_istore (L' := [some (.inr (.inl (some 75))), some (.inl x1), some (.inl z18)]) (zs_istore_n em146_19) ⟨Nat.le_of_ble_eq_true rfl, rfl⟩ rfl ?_
    exact loop _ z18 (by omega) (by omega) ⟨by omega, by omega⟩ rfl
  · refine hA_const (k := 0) (zs_iconst (v := 0) em146_9 (by decide +kernel)) (by decide +kernel) (fun z9 hz9 => ?_)
    refine hA_zreturn ⟨rfl, em146_10⟩ ⟨Nat.le_refl _, Nat.le_refl _⟩ ⟨by omega, by omega⟩ ?_
    by_cases hs : x1.toInt < 0
    · exact ⟨⟨_, (List.mem_cons_of_mem _ List.mem_cons_self), ⟨_, rfl, show (0 : Int) ≤ _ by omega, show _ ≤ (0 : Int) by omega⟩, hCh_nil, (fun id hl hn => rfl), (List.forall_mem_cons.mpr ⟨⟨_, rfl, an_lo _, show _ ≤ ((-1) : Int) by omega⟩, fun _ h => absurd h List.not_mem_nil⟩)⟩, (fun h => by cases h), (fun _ id hid => rfl)⟩
    · exact ⟨⟨_, (List.mem_cons_of_mem _ (List.mem_cons_of_mem _ List.mem_cons_self)), ⟨_, rfl, show (0 : Int) ≤ _ by omega, show _ ≤ (0 : Int) by omega⟩, hCh_nil, (fun id hl hn => rfl), (List.forall_mem_cons.mpr ⟨⟨_, rfl, show (3 : Int) ≤ _ by omega, an_hi _⟩, fun _ h => absurd h List.not_mem_nil⟩)⟩, (fun h => by cases h), (fun _ id hid => rfl)⟩
theorem em182_0 : decode prog_14_method_112_code 0 = .ok (.iload_n 1, 1) := by decide +kernel
theorem em182_1 : decode prog_14_method_112_code 1 = .ok (.iconst 0, 1) := by decide +kernel
theorem em182_2 : decode prog_14_method_112_code 2 = .ok (.iconst 2, 1) := by decide +kernel
theorem em182_3 : decode prog_14_method_112_code 3 = .ok (.invokestatic 324, 3) := by decide +kernel
theorem em182_6 : decode prog_14_method_112_code 6 = .ok (.ifCond .eq 12, 3) := by decide +kernel
theorem em182_9 : decode prog_14_method_112_code 9 = .ok (.aload_n 0, 1) := by decide +kernel
theorem em182_10 : decode prog_14_method_112_code 10 = .ok (.getfield 143, 3) := by decide +kernel
theorem em182_13 : decode prog_14_method_112_code 13 = .ok (.iload_n 1, 1) := by decide +kernel
theorem em182_14 : decode prog_14_method_112_code 14 = .ok (.baload, 1) := by decide +kernel
theorem em182_15 : decode prog_14_method_112_code 15 = .ok (.ifCond .ne 5, 3) := by decide +kernel
theorem em182_18 : decode prog_14_method_112_code 18 = .ok (.iconst 0, 1) := by decide +kernel
theorem em182_19 : decode prog_14_method_112_code 19 = .ok (.ireturn, 1) := by decide +kernel
theorem em182_20 : decode prog_14_method_112_code 20 = .ok (.iconst 0, 1) := by decide +kernel
theorem em182_21 : decode prog_14_method_112_code 21 = .ok (.istore_n 2, 1) := by decide +kernel
theorem em182_22 : decode prog_14_method_112_code 22 = .ok (.iload_n 2, 1) := by decide +kernel
theorem em182_23 : decode prog_14_method_112_code 23 = .ok (.sipush 390, 3) := by decide +kernel
theorem em182_26 : decode prog_14_method_112_code 26 = .ok (.if_icmp .ge 27, 3) := by decide +kernel
theorem em182_29 : decode prog_14_method_112_code 29 = .ok (.aload_n 0, 1) := by decide +kernel
theorem em182_30 : decode prog_14_method_112_code 30 = .ok (.getfield 113, 3) := by decide +kernel
theorem em182_33 : decode prog_14_method_112_code 33 = .ok (.iload_n 2, 1) := by decide +kernel
theorem em182_34 : decode prog_14_method_112_code 34 = .ok (.aload_n 0, 1) := by decide +kernel
theorem em182_35 : decode prog_14_method_112_code 35 = .ok (.getfield 146, 3) := by decide +kernel
theorem em182_38 : decode prog_14_method_112_code 38 = .ok (.sipush 390, 3) := by decide +kernel
theorem em182_41 : decode prog_14_method_112_code 41 = .ok (.iload_n 1, 1) := by decide +kernel
theorem em182_42 : decode prog_14_method_112_code 42 = .ok (.imul, 1) := by decide +kernel
theorem em182_43 : decode prog_14_method_112_code 43 = .ok (.iload_n 2, 1) := by decide +kernel
theorem em182_44 : decode prog_14_method_112_code 44 = .ok (.iadd, 1) := by decide +kernel
theorem em182_45 : decode prog_14_method_112_code 45 = .ok (.iaload, 1) := by decide +kernel
theorem em182_46 : decode prog_14_method_112_code 46 = .ok (.iastore, 1) := by decide +kernel
theorem em182_47 : decode prog_14_method_112_code 47 = .ok (.iinc 2 1, 3) := by decide +kernel
theorem em182_50 : decode prog_14_method_112_code 50 = .ok (.goto (-28), 3) := by decide +kernel
theorem em182_53 : decode prog_14_method_112_code 53 = .ok (.aload_n 0, 1) := by decide +kernel
theorem em182_54 : decode prog_14_method_112_code 54 = .ok (.iconst 0, 1) := by decide +kernel
theorem em182_55 : decode prog_14_method_112_code 55 = .ok (.putfield 248, 3) := by decide +kernel
theorem em182_58 : decode prog_14_method_112_code 58 = .ok (.iconst 1, 1) := by decide +kernel
theorem em182_59 : decode prog_14_method_112_code 59 = .ok (.ireturn, 1) := by decide +kernel
set_option maxRecDepth 10000 in
set_option maxHeartbeats 4000000 in
theorem hM_209 : zOKh 209 zc_209 := by
  intro d hc as I q h hq
  obtain ⟨hd, ⟨_, _, rfl, rfl, ⟨_, _, rfl, ⟨x1, rfl, hx1, hx1b⟩, rfl⟩⟩, hF, hI⟩ := h
  have hd : 8 ≤ d + 1 := hd
  have hx1 : ((-2147483648) : Int) ≤ x1.toInt := hx1
  have hx1b : x1.toInt ≤ (2147483647 : Int) := hx1b
  have hf20 : (0 : Int) ≤ zf I 20 ∧ zf I 20 ≤ (30 : Int) := hF _ List.mem_cons_self
  cases (show some _ = some q from hq)
  have loop : ∀ (n : Nat) (k : Int32) (hk : 0 ≤ k.toInt) (hk2 : k.toInt ≤ 390) (hx : 0 ≤ x1.toInt ∧ x1.toInt ≤ 2), (390 - k.toInt).toNat = n → zAt zG0 PZ zbd zpre zpost (d, (zbd 209).1, (zbd 209).2) prog_14_method_112_code "CapitalCaseModel" (zRet prog_14_method_112_code (some .boolean) (zbd 209) (fun r I' => aPost zInv zc_209 [.inr (.inl (some 75)), .inl x1] I r I')) 22 [some (.inr (.inl (some 75))), some (.inl x1), some (.inl k)] [] I (0, 0) := by
    intro n
    induction n using Nat.strongRecOn with
    | ind n ih =>
      intro k hk hk2 hx hn
      refine hA_iload (zs_iload_n em182_22) rfl ?_
      refine hA_const (k := 390) (zs_sipush (v := 390) em182_23 (by decide +kernel)) (by decide +kernel) (fun z23 hz23 => ?_)
      refine hA_icmp (zs_icmpge em182_26 (t := 53) (by decide)) (fun (c26 : z23.toInt ≤ k.toInt) => ?_) (fun (c26 : ¬ z23.toInt ≤ k.toInt) => ?_)
      · refine hA_aload (zs_aload_n em182_53) rfl ?_
        refine hA_const (k := 0) (zs_iconst (v := 0) em182_54 (by decide +kernel)) (by decide +kernel) (fun z54 hz54 => ?_)
        refine hA_puti0 (id := 20) (zs_puti zInj0 (T := TX12) (M := 70) (ty := tyX12) (ci := 12) (j := 10) (kd := 0) em182_55 rfl inX12 tyX12_ok nmX12 (by decide) wd_1340 (Or.inl ⟨rfl, rfl⟩) rfl ((congrFun xo_12 248).trans rfl)) ⟨_, rfl, rfl⟩ (fun h => by cases h) ?_
        refine hA_const (k := 1) (zs_iconst (v := 1) em182_58 (by decide +kernel)) (by decide +kernel) (fun z58 hz58 => ?_)
        refine hA_zreturn ⟨rfl, em182_59⟩ ⟨Nat.le_refl _, Nat.le_refl _⟩ ⟨by omega, by omega⟩ ?_
        exact ⟨⟨_, List.mem_cons_self, ⟨_, rfl, show (0 : Int) ≤ _ by omega, show _ ≤ (1 : Int) by omega⟩, (hCh_cons (fun k hk => none_no hk) ⟨by rw [zf_same]; omega, by rw [zf_same]; omega⟩ hCh_nil), (fun id hl hn => ((zupd_fr (fun e => by subst e; exact hn _ List.mem_cons_self)).trans (rfl))), (fun _ h => absurd h List.not_mem_nil)⟩, (fun h => by cases h), (fun _ id hid => ((zupd_hi (by decide) hid).trans (rfl)))⟩
      · refine hA_aload (zs_aload_n em182_29) rfl ?_
        refine hA_getf2 (r := 107) (zs_getf (T := TX12) (M := 70) (ci := 12) (j := 1) em182_30 rfl inX12 (by decide) wd_1331 ((congrFun xo_12 113).trans rfl)) ⟨_, rfl, rfl⟩ ?_
        refine hA_iload (zs_iload_n em182_33) rfl ?_
        refine hA_aload (zs_aload_n em182_34) rfl ?_
        refine hA_getf2 (r := 118) (zs_getf (T := TX12) (M := 70) (ci := 12) (j := 69) em182_35 rfl inX12 (by decide) wd_1350 ((congrFun xo_12 146).trans rfl)) ⟨_, rfl, rfl⟩ ?_
        refine hA_const (k := 390) (zs_sipush (v := 390) em182_38 (by decide +kernel)) (by decide +kernel) (fun z38 hz38 => ?_)
        refine hA_iload (zs_iload_n em182_41) rfl ?_
        refine hA_mull (c := 390) (zs_imul em182_42) hz38 (by omega) (by omega) (fun z42 hz42 => ?_)
        refine hA_iload (zs_iload_n em182_43) rfl ?_
        refine hA_add (zs_iadd em182_44) (by omega) (by omega) (fun z44 hz44 => ?_)
        refine hA_ialdH (kd := 118) (len := 1170) (zs_iald em182_45) ⟨rfl, rfl, rfl⟩ (by omega) (by show _ < ((1170 : Nat) : Int); omega) (fun z45 hz45 => ?_)
        refine hA_iastH (kd := 107) (len := 390) (zs_iast zInj0 em182_46) ⟨rfl, rfl, rfl⟩ (by omega) (by show _ < ((390 : Nat) : Int); omega) (erow rfl (by show _ % 390 = _ % 390; omega) hz45) ?_
        refine hA_iinc (c := 1) (zs_iinc (k := 1) em182_47 (by decide +kernel)) (by decide +kernel) rfl ⟨Nat.le_of_ble_eq_true rfl, rfl⟩ (by omega) (by omega) (fun z47 hz47 => ?_)
        show zAt _ _ _ _ _ _ _ _ _ _ [some (.inr (.inl (some 75))), some (.inl x1), some (.inl z47)] _ _ _
        refine hA_goto (zs_goto em182_50 (t := 22) (by decide)) ?_
        exact ih _ (by omega) z47 (by omega) (by omega) hx rfl
  refine hmet (L := [some (.inr (.inl (some 75))), some (.inl x1), none]) (by decide) (Nat.le_of_ble_eq_true rfl) hc rfl ?_
  refine hA_iload (zs_iload_n em182_0) rfl ?_
  refine hA_const (k := 0) (zs_iconst (v := 0) em182_1 (by decide +kernel)) (by decide +kernel) (fun z1 hz1 => ?_)
  refine hA_const (k := 2) (zs_iconst (v := 2) em182_2 (by decide +kernel)) (by decide +kernel) (fun z2 hz2 => ?_)
  refine hA_call (as := [.inl x1, .inl z1, .inl z2]) (rest := []) (B' := (0, 0)) (zs_invS em182_3 zl_279 wd_1629 wd_1630 ((congrFun xo_12 324).trans rfl) xm_148) rfl (Nat.le_of_ble_eq_true rfl) rfl ⟨Nat.zero_le _, Nat.zero_le _⟩ (zpre_of zh_279 ⟨(by show 1 ≤ d; omega), ⟨_, _, rfl, ⟨_, rfl, an_lo _, an_hi _⟩, ⟨_, _, rfl, ⟨_, rfl, show (0 : Int) ≤ z1.toInt by omega, show z1.toInt ≤ (0 : Int) by omega⟩, ⟨_, _, rfl, ⟨_, rfl, show (2 : Int) ≤ z2.toInt by omega, show z2.toInt ≤ (2 : Int) by omega⟩, rfl⟩⟩⟩, hF_nil, fun h => by cases h⟩) (fun r3 I3 hp3 => ?_)
  replace hp3 := zpost_of zh_279 hp3
  rcases zq_279 hp3 with ⟨z3, rfl, hz3l, hz3h, rfl⟩ | ⟨z3', rfl, hz3'l, hz3'h, rfl, ha3_0⟩
  · refine hA_if (zs_ifeq em182_6 (t := 18) (by decide)) (fun (c6 : z3.toInt = 0) => ?_) (fun (c6 : ¬ z3.toInt = 0) => ?_)
    · refine hA_const (k := 0) (zs_iconst (v := 0) em182_18 (by decide +kernel)) (by decide +kernel) (fun z18 hz18 => ?_)
      refine hA_zreturn ⟨rfl, em182_19⟩ ⟨Nat.le_refl _, Nat.le_refl _⟩ ⟨by omega, by omega⟩ ?_
      exact ⟨⟨_, List.mem_cons_self, ⟨_, rfl, show (0 : Int) ≤ _ by omega, show _ ≤ (1 : Int) by omega⟩, (hCh_cons (fun k hk => none_no hk) ⟨by omega, by omega⟩ hCh_nil), (fun id hl hn => rfl), (fun _ h => absurd h List.not_mem_nil)⟩, (fun h => by cases h), (fun _ id hid => rfl)⟩
    · exfalso
      omega
  · have ha3_0 := ha3_0 _ rfl
    refine hA_if (zs_ifeq em182_6 (t := 18) (by decide)) (fun (c6' : z3'.toInt = 0) => ?_) (fun (c6' : ¬ z3'.toInt = 0) => ?_)
    · exfalso
      omega
    · refine hA_aload (zs_aload_n em182_9) rfl ?_
      refine hA_getf2 (r := 117) (zs_getf (T := TX12) (M := 70) (ci := 12) (j := 68) em182_10 rfl inX12 (by decide) wd_1349 ((congrFun xo_12 143).trans rfl)) ⟨_, rfl, rfl⟩ ?_
      refine hA_iload (zs_iload_n em182_13) rfl ?_
      refine hA_baldH (kd := 117) (len := 3) (zs_bald em182_14) ⟨rfl, rfl, rfl, Or.inr rfl⟩ (by omega) (by show _ < ((3 : Nat) : Int); omega) (fun z14 hz14 => ?_)
      have hbz14 : (0 : Int) ≤ z14.toInt ∧ z14.toInt ≤ 1 := eall rfl hz14
      refine hA_if (zs_ifne em182_15 (t := 20) (by decide)) (fun (c15 : ¬ z14.toInt = 0) => ?_) (fun (c15 : ¬ ¬ z14.toInt = 0) => ?_)
      · refine hA_const (k := 0) (zs_iconst (v := 0) em182_20 (by decide +kernel)) (by decide +kernel) (fun z20 hz20 => ?_)
        refine hA_istore (L' := [some (.inr (.inl (some 75))), some (.inl x1), some (.inl z20)]) (zs_istore_n em182_21) ⟨Nat.le_of_ble_eq_true rfl, rfl⟩ rfl ?_
        exact loop _ z20 (by omega) (by omega) ⟨by omega, by omega⟩ rfl
      · refine hA_const (k := 0) (zs_iconst (v := 0) em182_18 (by decide +kernel)) (by decide +kernel) (fun z18' hz18' => ?_)
        refine hA_zreturn ⟨rfl, em182_19⟩ ⟨Nat.le_refl _, Nat.le_refl _⟩ ⟨by omega, by omega⟩ ?_
        exact ⟨⟨_, List.mem_cons_self, ⟨_, rfl, show (0 : Int) ≤ _ by omega, show _ ≤ (1 : Int) by omega⟩, (hCh_cons (fun k hk => none_no hk) ⟨by omega, by omega⟩ hCh_nil), (fun id hl hn => rfl), (fun _ h => absurd h List.not_mem_nil)⟩, (fun h => by cases h), (fun _ id hid => rfl)⟩
