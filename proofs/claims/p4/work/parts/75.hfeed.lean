theorem em70_0 : decode prog_1_method_3_code 0 = .ok (.bipush 24, 2) := by decide +kernel
theorem em70_2 : decode prog_1_method_3_code 2 = .ok (.istore_n 2, 1) := by decide +kernel
theorem em70_3 : decode prog_1_method_3_code 3 = .ok (.iload_n 2, 1) := by decide +kernel
theorem em70_4 : decode prog_1_method_3_code 4 = .ok (.ifCond .lt 42, 3) := by decide +kernel
theorem em70_7 : decode prog_1_method_3_code 7 = .ok (.aload_n 0, 1) := by decide +kernel
theorem em70_8 : decode prog_1_method_3_code 8 = .ok (.getfield 13, 3) := by decide +kernel
theorem em70_11 : decode prog_1_method_3_code 11 = .ok (.sipush 2000, 3) := by decide +kernel
theorem em70_14 : decode prog_1_method_3_code 14 = .ok (.if_icmp .ge 32, 3) := by decide +kernel
theorem em70_17 : decode prog_1_method_3_code 17 = .ok (.aload_n 0, 1) := by decide +kernel
theorem em70_18 : decode prog_1_method_3_code 18 = .ok (.getfield 9, 3) := by decide +kernel
theorem em70_21 : decode prog_1_method_3_code 21 = .ok (.aload_n 0, 1) := by decide +kernel
theorem em70_22 : decode prog_1_method_3_code 22 = .ok (.getfield 13, 3) := by decide +kernel
theorem em70_25 : decode prog_1_method_3_code 25 = .ok (.iload_n 1, 1) := by decide +kernel
theorem em70_26 : decode prog_1_method_3_code 26 = .ok (.iload_n 2, 1) := by decide +kernel
theorem em70_27 : decode prog_1_method_3_code 27 = .ok (.iushr, 1) := by decide +kernel
theorem em70_28 : decode prog_1_method_3_code 28 = .ok (.i2b, 1) := by decide +kernel
theorem em70_29 : decode prog_1_method_3_code 29 = .ok (.bastore, 1) := by decide +kernel
theorem em70_30 : decode prog_1_method_3_code 30 = .ok (.aload_n 0, 1) := by decide +kernel
theorem em70_31 : decode prog_1_method_3_code 31 = .ok (.dup, 1) := by decide +kernel
theorem em70_32 : decode prog_1_method_3_code 32 = .ok (.getfield 13, 3) := by decide +kernel
theorem em70_35 : decode prog_1_method_3_code 35 = .ok (.iconst 1, 1) := by decide +kernel
theorem em70_36 : decode prog_1_method_3_code 36 = .ok (.iadd, 1) := by decide +kernel
theorem em70_37 : decode prog_1_method_3_code 37 = .ok (.putfield 13, 3) := by decide +kernel
theorem em70_40 : decode prog_1_method_3_code 40 = .ok (.iinc 2 (-8), 3) := by decide +kernel
theorem em70_43 : decode prog_1_method_3_code 43 = .ok (.goto (-40), 3) := by decide +kernel
theorem em70_46 : decode prog_1_method_3_code 46 = .ok (.return_, 1) := by decide +kernel
set_option maxRecDepth 10000 in
set_option maxHeartbeats 4000000 in
theorem hM_289 : zOKx 289 := by
  intro d hc as I q h hq
  have h : hpr_289 (d + 1) as I := h
  obtain ⟨hd, a, rfl, hpre⟩ := h
  cases (show some _ = some q from hq)
  obtain ⟨hp0, hp1⟩ := hpre
  have loop : ∀ (n : Nat) (k : Nat) (sh : Int32) (J : zI) (hk : k ≤ 4) (hs : sh.toInt = 24 - 8 * (k : Int)) (hJ : tpA I J 1 1 k (by8 a)), (4 - (k : Int)).toNat = n → zAt zG0 PZ zbd zpre zpost (d, (zbd 289).1, (zbd 289).2) prog_1_method_3_code "CapitalCase" (zRet prog_1_method_3_code none (zbd 289) (hpost 289 [.inr (.inl (some 0)), .inl a] I)) 3 [some (.inr (.inl (some 0))), some (.inl a), some (.inl sh)] [] J (0, 0) := by
    intro n
    induction n using Nat.strongRecOn with
    | ind n ih =>
      intro k sh J hk hs hJ hn
      have hJ2 := hJ.2.1
      refine hA_iload (zs_iload_n em70_3) rfl ?_
      refine hA_if (zs_iflt em70_4 (t := 46) (by decide)) (fun (c4 : sh.toInt < 0) => ?_) (fun (c4 : ¬ sh.toInt < 0) => ?_)
      · refine hA_return ⟨rfl, em70_46⟩ ⟨Nat.le_refl _, Nat.le_refl _⟩ ?_
        intro a' he
        cases he
        refine ⟨rfl, ?_⟩
        rw [show (4 : Nat) = k by omega]
        exact hJ
      · refine hA_aload (zs_aload_n em70_7) rfl ?_
        refine hA_getf0 (id := 1) (zs_getf (T := TX11) (M := 16) (ci := 11) (j := 6) em70_8 rfl inX11 (by decide) wd_554) ⟨_, rfl, rfl⟩ (fun z8 hz8 => ?_)
        refine hA_const (k := 2000) (zs_sipush (v := 2000) em70_11 (by decide +kernel)) (by decide +kernel) (fun z11 hz11 => ?_)
        refine hA_icmp (zs_icmpge em70_14 (t := 46) (by decide)) (fun (c14 : z11.toInt ≤ z8.toInt) => ?_) (fun (c14 : ¬ z11.toInt ≤ z8.toInt) => ?_)
        · refine hA_return ⟨rfl, em70_46⟩ ⟨Nat.le_refl _, Nat.le_refl _⟩ ?_
          intro a' he
          cases he
          refine ⟨rfl, ?_⟩
          rw [show (4 : Nat) = k by omega]
          exact hJ
        · refine hA_aload (zs_aload_n em70_17) rfl ?_
          refine hA_getf2 (r := 1) (zs_getf (T := TX11) (M := 16) (ci := 11) (j := 7) em70_18 rfl inX11 (by decide) wd_553) ⟨_, rfl, rfl⟩ ?_
          refine hA_aload (zs_aload_n em70_21) rfl ?_
          refine hA_getf0 (id := 1) (zs_getf (T := TX11) (M := 16) (ci := 11) (j := 6) em70_22 rfl inX11 (by decide) wd_554) ⟨_, rfl, rfl⟩ (fun z22 hz22 => ?_)
          refine hA_iload (zs_iload_n em70_25) rfl ?_
          refine hA_iload (zs_iload_n em70_26) rfl ?_
          refine hA (zs_iushr em70_27) ?_
          show zAt _ _ _ _ _ _ _ _ _ _ _ (.inl ((a.toUInt32 >>> (sh.toUInt32 &&& Int32.toUInt32 31)).toInt32) :: _) _ _
          generalize hz27 : ((a.toUInt32 >>> (sh.toUInt32 &&& Int32.toUInt32 31)).toInt32) = z27
          refine hA (zs_i2b em70_28) ?_
          show zAt _ _ _ _ _ _ _ _ _ _ _ (.inl (z27.toInt8.toInt32) :: _) _ _
          generalize hz28 : (z27.toInt8.toInt32) = z28
          refine hA_bast (kd := 1) (len := 2000) (zs_bast zInj0 em70_29) ⟨rfl, rfl, rfl⟩ (by omega) (by show _ < ((2000 : Nat) : Int); omega) (fun z29 hz29 hz29b hz29x => ?_)
          refine hA_aload (zs_aload_n em70_30) rfl ?_
          refine hA_dup (zs_dup em70_31) rfl ?_
          refine hA_getf0 (id := 1) (zs_getf (T := TX11) (M := 16) (ci := 11) (j := 6) em70_32 rfl inX11 (by decide) wd_554) ⟨_, rfl, rfl⟩ (fun z32 hz32 => ?_)
          rw [zf_arr _ _ _ _ _ (by decide)] at hz32
          refine hA_const (k := 1) (zs_iconst (v := 1) em70_35 (by decide +kernel)) (by decide +kernel) (fun z35 hz35 => ?_)
          refine hA_add (zs_iadd em70_36) (by omega) (by omega) (fun z36 hz36 => ?_)
          refine hA_puti0 (id := 1) (zs_puti zInj0 (T := TX11) (M := 16) (ty := tyX11) (ci := 11) (j := 6) (kd := 0) em70_37 rfl inX11 tyX11_ok nmX11 (by decide) wd_554 (Or.inl ⟨rfl, rfl⟩) rfl) ⟨_, rfl, rfl⟩ (fun h => by cases h) ?_
          refine hA_iinc (c := (-8)) (zs_iinc (k := (-8)) em70_40 (by decide +kernel)) (by decide +kernel) rfl ⟨Nat.le_of_ble_eq_true rfl, rfl⟩ (by omega) (by omega) (fun z40 hz40 => ?_)
          show zAt _ _ _ _ _ _ _ _ _ _ [some (.inr (.inl (some 0))), some (.inl a), some (.inl z40)] _ _ _
          refine hA_goto (zs_goto em70_43 (t := 3) (by decide)) ?_
          have ex : z29 = by8 a k := by
            rw [hz29x, ← hz28, i8_rt, ← hz27]
            exact (byC_R (by omega) hs).trans (byR_at (by omega) hs)
          exact ih _ (by omega) (k + 1) z40 _ (by omega) (by omega) (tpA_snoc hJ (by decide) (by omega) (by omega) (by omega) (by omega) ex) rfl
  refine hmet (L := [some (.inr (.inl (some 0))), some (.inl a), none]) (by decide) (Nat.le_of_ble_eq_true rfl) hc rfl ?_
  refine hA_const (k := 24) (zs_bipush (v := 24) em70_0 (by decide +kernel)) (by decide +kernel) (fun z0 hz0 => ?_)
  refine hA_istore (L' := [some (.inr (.inl (some 0))), some (.inl a), some (.inl z0)]) (zs_istore_n em70_2) ⟨Nat.le_of_ble_eq_true rfl, rfl⟩ rfl ?_
  exact loop _ 0 z0 I (by omega) (by omega) tpA_nil rfl
theorem em178_0 : decode prog_14_method_4_code 0 = .ok (.bipush 24, 2) := by decide +kernel
theorem em178_2 : decode prog_14_method_4_code 2 = .ok (.istore_n 2, 1) := by decide +kernel
theorem em178_3 : decode prog_14_method_4_code 3 = .ok (.iload_n 2, 1) := by decide +kernel
theorem em178_4 : decode prog_14_method_4_code 4 = .ok (.ifCond .lt 32, 3) := by decide +kernel
theorem em178_7 : decode prog_14_method_4_code 7 = .ok (.aload_n 0, 1) := by decide +kernel
theorem em178_8 : decode prog_14_method_4_code 8 = .ok (.getfield 13, 3) := by decide +kernel
theorem em178_11 : decode prog_14_method_4_code 11 = .ok (.aload_n 0, 1) := by decide +kernel
theorem em178_12 : decode prog_14_method_4_code 12 = .ok (.getfield 163, 3) := by decide +kernel
theorem em178_15 : decode prog_14_method_4_code 15 = .ok (.iload_n 1, 1) := by decide +kernel
theorem em178_16 : decode prog_14_method_4_code 16 = .ok (.iload_n 2, 1) := by decide +kernel
theorem em178_17 : decode prog_14_method_4_code 17 = .ok (.ishr, 1) := by decide +kernel
theorem em178_18 : decode prog_14_method_4_code 18 = .ok (.i2b, 1) := by decide +kernel
theorem em178_19 : decode prog_14_method_4_code 19 = .ok (.bastore, 1) := by decide +kernel
theorem em178_20 : decode prog_14_method_4_code 20 = .ok (.aload_n 0, 1) := by decide +kernel
theorem em178_21 : decode prog_14_method_4_code 21 = .ok (.dup, 1) := by decide +kernel
theorem em178_22 : decode prog_14_method_4_code 22 = .ok (.getfield 163, 3) := by decide +kernel
theorem em178_25 : decode prog_14_method_4_code 25 = .ok (.iconst 1, 1) := by decide +kernel
theorem em178_26 : decode prog_14_method_4_code 26 = .ok (.iadd, 1) := by decide +kernel
theorem em178_27 : decode prog_14_method_4_code 27 = .ok (.putfield 163, 3) := by decide +kernel
theorem em178_30 : decode prog_14_method_4_code 30 = .ok (.iinc 2 (-8), 3) := by decide +kernel
theorem em178_33 : decode prog_14_method_4_code 33 = .ok (.goto (-30), 3) := by decide +kernel
theorem em178_36 : decode prog_14_method_4_code 36 = .ok (.return_, 1) := by decide +kernel
set_option maxRecDepth 10000 in
set_option maxHeartbeats 4000000 in
theorem hM_291 : zOKx 291 := by
  intro d hc as I q h hq
  have h : hpr_291 (d + 1) as I := h
  obtain ⟨hd, a, rfl, hpre⟩ := h
  cases (show some _ = some q from hq)
  obtain ⟨hp0, hp1⟩ := hpre
  have loop : ∀ (n : Nat) (k : Nat) (sh : Int32) (J : zI) (hk : k ≤ 4) (hs : sh.toInt = 24 - 8 * (k : Int)) (hJ : tpA I J 10 76 k (by8 a)), (4 - (k : Int)).toNat = n → zAt zG0 PZ zbd zpre zpost (d, (zbd 291).1, (zbd 291).2) prog_14_method_4_code "CapitalCaseModel" (zRet prog_14_method_4_code none (zbd 291) (hpost 291 [.inr (.inl (some 75)), .inl a] I)) 3 [some (.inr (.inl (some 75))), some (.inl a), some (.inl sh)] [] J (0, 0) := by
    intro n
    induction n using Nat.strongRecOn with
    | ind n ih =>
      intro k sh J hk hs hJ hn
      have hJ2 := hJ.2.1
      refine hA_iload (zs_iload_n em178_3) rfl ?_
      refine hA_if (zs_iflt em178_4 (t := 36) (by decide)) (fun (c4 : sh.toInt < 0) => ?_) (fun (c4 : ¬ sh.toInt < 0) => ?_)
      · refine hA_return ⟨rfl, em178_36⟩ ⟨Nat.le_refl _, Nat.le_refl _⟩ ?_
        intro a' he
        cases he
        refine ⟨rfl, ?_⟩
        rw [show (4 : Nat) = k by omega]
        exact hJ
      · refine hA_aload (zs_aload_n em178_7) rfl ?_
        refine hA_getf2 (r := 76) (zs_getf (T := TX12) (M := 70) (ci := 12) (j := 13) em178_8 rfl inX12 (by decide) wd_1282) ⟨_, rfl, rfl⟩ ?_
        refine hA_aload (zs_aload_n em178_11) rfl ?_
        refine hA_getf0 (id := 10) (zs_getf (T := TX12) (M := 70) (ci := 12) (j := 12) em178_12 rfl inX12 (by decide) wd_1283) ⟨_, rfl, rfl⟩ (fun z12 hz12 => ?_)
        refine hA_iload (zs_iload_n em178_15) rfl ?_
        refine hA_iload (zs_iload_n em178_16) rfl ?_
        refine hA (zs_ishr em178_17) ?_
        show zAt _ _ _ _ _ _ _ _ _ _ _ (.inl (a >>> (sh &&& 31)) :: _) _ _
        generalize hz17 : (a >>> (sh &&& 31)) = z17
        refine hA (zs_i2b em178_18) ?_
        show zAt _ _ _ _ _ _ _ _ _ _ _ (.inl (z17.toInt8.toInt32) :: _) _ _
        generalize hz18 : (z17.toInt8.toInt32) = z18
        refine hA_bast (kd := 76) (len := 2000) (zs_bast zInj0 em178_19) ⟨rfl, rfl, rfl⟩ (by omega) (by show _ < ((2000 : Nat) : Int); omega) (fun z19 hz19 hz19b hz19x => ?_)
        refine hA_aload (zs_aload_n em178_20) rfl ?_
        refine hA_dup (zs_dup em178_21) rfl ?_
        refine hA_getf0 (id := 10) (zs_getf (T := TX12) (M := 70) (ci := 12) (j := 12) em178_22 rfl inX12 (by decide) wd_1283) ⟨_, rfl, rfl⟩ (fun z22 hz22 => ?_)
        rw [zf_arr _ _ _ _ _ (by decide)] at hz22
        refine hA_const (k := 1) (zs_iconst (v := 1) em178_25 (by decide +kernel)) (by decide +kernel) (fun z25 hz25 => ?_)
        refine hA_add (zs_iadd em178_26) (by omega) (by omega) (fun z26 hz26 => ?_)
        refine hA_puti0 (id := 10) (zs_puti zInj0 (T := TX12) (M := 70) (ty := tyX12) (ci := 12) (j := 12) (kd := 0) em178_27 rfl inX12 tyX12_ok nmX12 (by decide) wd_1283 (Or.inl ⟨rfl, rfl⟩) rfl) ⟨_, rfl, rfl⟩ (fun h => by cases h) ?_
        refine hA_iinc (c := (-8)) (zs_iinc (k := (-8)) em178_30 (by decide +kernel)) (by decide +kernel) rfl ⟨Nat.le_of_ble_eq_true rfl, rfl⟩ (by omega) (by omega) (fun z30 hz30 => ?_)
        show zAt _ _ _ _ _ _ _ _ _ _ [some (.inr (.inl (some 75))), some (.inl a), some (.inl z30)] _ _ _
        refine hA_goto (zs_goto em178_33 (t := 3) (by decide)) ?_
        have ex : z19 = by8 a k := by
          rw [hz19x, ← hz18, i8_rt, ← hz17]
          exact byR_at (by omega) hs
        exact ih _ (by omega) (k + 1) z30 _ (by omega) (by omega) (tpA_snoc hJ (by decide) (by omega) (by omega) (by omega) (by omega) ex) rfl
  refine hmet (L := [some (.inr (.inl (some 75))), some (.inl a), none]) (by decide) (Nat.le_of_ble_eq_true rfl) hc rfl ?_
  refine hA_const (k := 24) (zs_bipush (v := 24) em178_0 (by decide +kernel)) (by decide +kernel) (fun z0 hz0 => ?_)
  refine hA_istore (L' := [some (.inr (.inl (some 75))), some (.inl a), some (.inl z0)]) (zs_istore_n em178_2) ⟨Nat.le_of_ble_eq_true rfl, rfl⟩ rfl ?_
  exact loop _ 0 z0 I (by omega) (by omega) tpA_nil rfl
set_option maxRecDepth 10000 in
set_option maxHeartbeats 4000000 in
theorem hM_275 : zOKx 275 := by
  intro d hc as I q h hq
  have h : hpr_275 (d + 1) as I := h
  obtain ⟨hd, a, b, c, e, f, rfl, hpre⟩ := h
  cases (show some _ = some q from hq)
  refine hmet (L := [some (.inr (.inl (some 0))), some (.inl a), some (.inl b), some (.inl c), some (.inl e), some (.inl f)]) (by decide) (Nat.le_of_ble_eq_true rfl) hc rfl ?_
  obtain ⟨hp0, hp1⟩ := hpre
  refine hA_aload (zs_aload_n em81_0) rfl ?_
  refine hA_getf0 (id := 1) (zs_getf (T := TX11) (M := 16) (ci := 11) (j := 6) em81_1 rfl inX11 (by decide) wd_554) ⟨_, rfl, rfl⟩ (fun z1 hz1 => ?_)
  refine hA_const (k := 20) (zs_bipush (v := 20) em81_4 (by decide +kernel)) (by decide +kernel) (fun z4 hz4 => ?_)
  refine hA_add (zs_iadd em81_6) (by omega) (by omega) (fun z6 hz6 => ?_)
  refine hA_const (k := 2000) (zs_sipush (v := 2000) em81_7 (by decide +kernel)) (by decide +kernel) (fun z7 hz7 => ?_)
  refine hA_icmp (zs_icmple em81_10 (t := 15) (by decide)) (fun (c10 : z6.toInt ≤ z7.toInt) => ?_) (fun (c10 : ¬ z6.toInt ≤ z7.toInt) => ?_)
  · refine hA_aload (zs_aload_n em81_15) rfl ?_
    refine hA_iload (zs_iload_n em81_16) rfl ?_
    refine hA_callV (as := [.inl a]) (rest := []) (B' := (0, 0)) (zs_invV (T := TX11) em81_17 zl_289 rfl wd_606 wd_608 wd_1) rfl ⟨_, rfl⟩ (Nat.le_of_ble_eq_true rfl) rfl ⟨Nat.zero_le _, Nat.zero_le _⟩ (hpre_of rfl (show hpr_289 d [.inr (.inl (some 0)), .inl a] I from ⟨by show 1 ≤ d; omega, a, rfl, ⟨by omega, by omega⟩⟩)) (fun r17 I17 hp17 => ?_)
    replace hp17 : hpo_289 _ _ _ _ := hpost_of rfl hp17
    replace hp17 := hp17 a rfl
    obtain ⟨rfl, ht17⟩ := hp17
    have hl17 := ht17.2.1
    refine hA_aload (zs_aload_n em81_20) rfl ?_
    refine hA_iload (zs_iload_n em81_21) rfl ?_
    refine hA_callV (as := [.inl b]) (rest := []) (B' := (0, 0)) (zs_invV (T := TX11) em81_22 zl_289 rfl wd_606 wd_608 wd_1) rfl ⟨_, rfl⟩ (Nat.le_of_ble_eq_true rfl) rfl ⟨Nat.zero_le _, Nat.zero_le _⟩ (hpre_of rfl (show hpr_289 d [.inr (.inl (some 0)), .inl b] I17 from ⟨by show 1 ≤ d; omega, b, rfl, ⟨by omega, by omega⟩⟩)) (fun r22 I22 hp22 => ?_)
    replace hp22 : hpo_289 _ _ _ _ := hpost_of rfl hp22
    replace hp22 := hp22 b rfl
    obtain ⟨rfl, ht22⟩ := hp22
    have hl22 := ht22.2.1
    refine hA_aload (zs_aload_n em81_25) rfl ?_
    refine hA_iload (zs_iload_n em81_26) rfl ?_
    refine hA_callV (as := [.inl c]) (rest := []) (B' := (0, 0)) (zs_invV (T := TX11) em81_27 zl_289 rfl wd_606 wd_608 wd_1) rfl ⟨_, rfl⟩ (Nat.le_of_ble_eq_true rfl) rfl ⟨Nat.zero_le _, Nat.zero_le _⟩ (hpre_of rfl (show hpr_289 d [.inr (.inl (some 0)), .inl c] I22 from ⟨by show 1 ≤ d; omega, c, rfl, ⟨by omega, by omega⟩⟩)) (fun r27 I27 hp27 => ?_)
    replace hp27 : hpo_289 _ _ _ _ := hpost_of rfl hp27
    replace hp27 := hp27 c rfl
    obtain ⟨rfl, ht27⟩ := hp27
    have hl27 := ht27.2.1
    refine hA_aload (zs_aload_n em81_30) rfl ?_
    refine hA_iload (zs_iload em81_31) rfl ?_
    refine hA_callV (as := [.inl e]) (rest := []) (B' := (0, 0)) (zs_invV (T := TX11) em81_33 zl_289 rfl wd_606 wd_608 wd_1) rfl ⟨_, rfl⟩ (Nat.le_of_ble_eq_true rfl) rfl ⟨Nat.zero_le _, Nat.zero_le _⟩ (hpre_of rfl (show hpr_289 d [.inr (.inl (some 0)), .inl e] I27 from ⟨by show 1 ≤ d; omega, e, rfl, ⟨by omega, by omega⟩⟩)) (fun r33 I33 hp33 => ?_)
    replace hp33 : hpo_289 _ _ _ _ := hpost_of rfl hp33
    replace hp33 := hp33 e rfl
    obtain ⟨rfl, ht33⟩ := hp33
    have hl33 := ht33.2.1
    refine hA_aload (zs_aload_n em81_36) rfl ?_
    refine hA_iload (zs_iload em81_37) rfl ?_
    refine hA_callV (as := [.inl f]) (rest := []) (B' := (0, 0)) (zs_invV (T := TX11) em81_39 zl_289 rfl wd_606 wd_608 wd_1) rfl ⟨_, rfl⟩ (Nat.le_of_ble_eq_true rfl) rfl ⟨Nat.zero_le _, Nat.zero_le _⟩ (hpre_of rfl (show hpr_289 d [.inr (.inl (some 0)), .inl f] I33 from ⟨by show 1 ≤ d; omega, f, rfl, ⟨by omega, by omega⟩⟩)) (fun r39 I39 hp39 => ?_)
    replace hp39 : hpo_289 _ _ _ _ := hpost_of rfl hp39
    replace hp39 := hp39 f rfl
    obtain ⟨rfl, ht39⟩ := hp39
    have hl39 := ht39.2.1
    refine hA_aload (zs_aload_n em81_42) rfl ?_
    refine hA_getf0 (id := 1) (zs_getf (T := TX11) (M := 16) (ci := 11) (j := 6) em81_43 rfl inX11 (by decide) wd_554) ⟨_, rfl, rfl⟩ (fun z43 hz43 => ?_)
    refine hA_ireturn ⟨rfl, em81_46⟩ ⟨Nat.le_refl _, Nat.le_refl _⟩ ?_
    intro a' b' c' e' f' he
    cases he
    have g1 := tpA_app (e := by20 a b c e f) ht17 ht22 (by omega) (by omega) (fun k hk => by unfold by20; rw [if_pos hk]) (fun k hk => by unfold by20; rw [if_neg (by omega), if_pos (by omega), show 4 + k - 4 = k by omega])
    have g2 := tpA_app (e := by20 a b c e f) g1 ht27 (by omega) (by omega) (fun k hk => rfl) (fun k hk => by unfold by20; rw [if_neg (by omega), if_neg (by omega), if_pos (by omega), show 4 + 4 + k - 8 = k by omega])
    have g3 := tpA_app (e := by20 a b c e f) g2 ht33 (by omega) (by omega) (fun k hk => rfl) (fun k hk => by unfold by20; rw [if_neg (by omega), if_neg (by omega), if_neg (by omega), if_pos (by omega), show 4 + 4 + 4 + k - 12 = k by omega])
    have g4 := tpA_app (e := by20 a b c e f) g3 ht39 (by omega) (by omega) (fun k hk => rfl) (fun k hk => by unfold by20; rw [if_neg (by omega), if_neg (by omega), if_neg (by omega), if_neg (by omega), show 4 + 4 + 4 + 4 + k - 16 = k by omega])
    exact ⟨_, rfl, Or.inr ⟨by omega, by omega, g4⟩⟩
  · refine hA_const (k := (-1)) (zs_iconst (v := (-1)) em81_13 (by decide +kernel)) (by decide +kernel) (fun z13 hz13 => ?_)
    refine hA_ireturn ⟨rfl, em81_14⟩ ⟨Nat.le_refl _, Nat.le_refl _⟩ ?_
    intro a' b' c' e' f' he
    cases he
    exact ⟨_, rfl, Or.inl ⟨by omega, by omega, rfl⟩⟩
set_option maxRecDepth 10000 in
set_option maxHeartbeats 4000000 in
theorem hM_276 : zOKx 276 := by
  intro d hc as I q h hq
  have h : hpr_276 (d + 1) as I := h
  obtain ⟨hd, a, b, c, e, f, rfl, hpre⟩ := h
  cases (show some _ = some q from hq)
  refine hmet (L := [some (.inr (.inl (some 75))), some (.inl a), some (.inl b), some (.inl c), some (.inl e), some (.inl f)]) (by decide) (Nat.le_of_ble_eq_true rfl) hc rfl ?_
  obtain ⟨hp0, hp1⟩ := hpre
  refine hA_aload (zs_aload_n em134_0) rfl ?_
  refine hA_getf0 (id := 10) (zs_getf (T := TX12) (M := 70) (ci := 12) (j := 12) em134_1 rfl inX12 (by decide) wd_1283) ⟨_, rfl, rfl⟩ (fun z1 hz1 => ?_)
  refine hA_const (k := 20) (zs_bipush (v := 20) em134_4 (by decide +kernel)) (by decide +kernel) (fun z4 hz4 => ?_)
  refine hA_add (zs_iadd em134_6) (by omega) (by omega) (fun z6 hz6 => ?_)
  refine hA_const (k := 2000) (zs_sipush (v := 2000) em134_7 (by decide +kernel)) (by decide +kernel) (fun z7 hz7 => ?_)
  refine hA_icmp (zs_icmple em134_10 (t := 15) (by decide)) (fun (c10 : z6.toInt ≤ z7.toInt) => ?_) (fun (c10 : ¬ z6.toInt ≤ z7.toInt) => ?_)
  · refine hA_aload (zs_aload_n em134_15) rfl ?_
    refine hA_iload (zs_iload_n em134_16) rfl ?_
    refine hA_callV (as := [.inl a]) (rest := []) (B' := (0, 0)) (zs_invV (T := TX12) em134_17 zl_291 rfl wd_1497 wd_1499 wd_47) rfl ⟨_, rfl⟩ (Nat.le_of_ble_eq_true rfl) rfl ⟨Nat.zero_le _, Nat.zero_le _⟩ (hpre_of rfl (show hpr_291 d [.inr (.inl (some 75)), .inl a] I from ⟨by show 1 ≤ d; omega, a, rfl, ⟨by omega, by omega⟩⟩)) (fun r17 I17 hp17 => ?_)
    replace hp17 : hpo_291 _ _ _ _ := hpost_of rfl hp17
    replace hp17 := hp17 a rfl
    obtain ⟨rfl, ht17⟩ := hp17
    have hl17 := ht17.2.1
    refine hA_aload (zs_aload_n em134_20) rfl ?_
    refine hA_iload (zs_iload_n em134_21) rfl ?_
    refine hA_callV (as := [.inl b]) (rest := []) (B' := (0, 0)) (zs_invV (T := TX12) em134_22 zl_291 rfl wd_1497 wd_1499 wd_47) rfl ⟨_, rfl⟩ (Nat.le_of_ble_eq_true rfl) rfl ⟨Nat.zero_le _, Nat.zero_le _⟩ (hpre_of rfl (show hpr_291 d [.inr (.inl (some 75)), .inl b] I17 from ⟨by show 1 ≤ d; omega, b, rfl, ⟨by omega, by omega⟩⟩)) (fun r22 I22 hp22 => ?_)
    replace hp22 : hpo_291 _ _ _ _ := hpost_of rfl hp22
    replace hp22 := hp22 b rfl
    obtain ⟨rfl, ht22⟩ := hp22
    have hl22 := ht22.2.1
    refine hA_aload (zs_aload_n em134_25) rfl ?_
    refine hA_iload (zs_iload_n em134_26) rfl ?_
    refine hA_callV (as := [.inl c]) (rest := []) (B' := (0, 0)) (zs_invV (T := TX12) em134_27 zl_291 rfl wd_1497 wd_1499 wd_47) rfl ⟨_, rfl⟩ (Nat.le_of_ble_eq_true rfl) rfl ⟨Nat.zero_le _, Nat.zero_le _⟩ (hpre_of rfl (show hpr_291 d [.inr (.inl (some 75)), .inl c] I22 from ⟨by show 1 ≤ d; omega, c, rfl, ⟨by omega, by omega⟩⟩)) (fun r27 I27 hp27 => ?_)
    replace hp27 : hpo_291 _ _ _ _ := hpost_of rfl hp27
    replace hp27 := hp27 c rfl
    obtain ⟨rfl, ht27⟩ := hp27
    have hl27 := ht27.2.1
    refine hA_aload (zs_aload_n em134_30) rfl ?_
    refine hA_iload (zs_iload em134_31) rfl ?_
    refine hA_callV (as := [.inl e]) (rest := []) (B' := (0, 0)) (zs_invV (T := TX12) em134_33 zl_291 rfl wd_1497 wd_1499 wd_47) rfl ⟨_, rfl⟩ (Nat.le_of_ble_eq_true rfl) rfl ⟨Nat.zero_le _, Nat.zero_le _⟩ (hpre_of rfl (show hpr_291 d [.inr (.inl (some 75)), .inl e] I27 from ⟨by show 1 ≤ d; omega, e, rfl, ⟨by omega, by omega⟩⟩)) (fun r33 I33 hp33 => ?_)
    replace hp33 : hpo_291 _ _ _ _ := hpost_of rfl hp33
    replace hp33 := hp33 e rfl
    obtain ⟨rfl, ht33⟩ := hp33
    have hl33 := ht33.2.1
    refine hA_aload (zs_aload_n em134_36) rfl ?_
    refine hA_iload (zs_iload em134_37) rfl ?_
    refine hA_callV (as := [.inl f]) (rest := []) (B' := (0, 0)) (zs_invV (T := TX12) em134_39 zl_291 rfl wd_1497 wd_1499 wd_47) rfl ⟨_, rfl⟩ (Nat.le_of_ble_eq_true rfl) rfl ⟨Nat.zero_le _, Nat.zero_le _⟩ (hpre_of rfl (show hpr_291 d [.inr (.inl (some 75)), .inl f] I33 from ⟨by show 1 ≤ d; omega, f, rfl, ⟨by omega, by omega⟩⟩)) (fun r39 I39 hp39 => ?_)
    replace hp39 : hpo_291 _ _ _ _ := hpost_of rfl hp39
    replace hp39 := hp39 f rfl
    obtain ⟨rfl, ht39⟩ := hp39
    have hl39 := ht39.2.1
    refine hA_aload (zs_aload_n em134_42) rfl ?_
    refine hA_getf0 (id := 10) (zs_getf (T := TX12) (M := 70) (ci := 12) (j := 12) em134_43 rfl inX12 (by decide) wd_1283) ⟨_, rfl, rfl⟩ (fun z43 hz43 => ?_)
    refine hA_ireturn ⟨rfl, em134_46⟩ ⟨Nat.le_refl _, Nat.le_refl _⟩ ?_
    intro a' b' c' e' f' he
    cases he
    have g1 := tpA_app (e := by20 a b c e f) ht17 ht22 (by omega) (by omega) (fun k hk => by unfold by20; rw [if_pos hk]) (fun k hk => by unfold by20; rw [if_neg (by omega), if_pos (by omega), show 4 + k - 4 = k by omega])
    have g2 := tpA_app (e := by20 a b c e f) g1 ht27 (by omega) (by omega) (fun k hk => rfl) (fun k hk => by unfold by20; rw [if_neg (by omega), if_neg (by omega), if_pos (by omega), show 4 + 4 + k - 8 = k by omega])
    have g3 := tpA_app (e := by20 a b c e f) g2 ht33 (by omega) (by omega) (fun k hk => rfl) (fun k hk => by unfold by20; rw [if_neg (by omega), if_neg (by omega), if_neg (by omega), if_pos (by omega), show 4 + 4 + 4 + k - 12 = k by omega])
    have g4 := tpA_app (e := by20 a b c e f) g3 ht39 (by omega) (by omega) (fun k hk => rfl) (fun k hk => by unfold by20; rw [if_neg (by omega), if_neg (by omega), if_neg (by omega), if_neg (by omega), show 4 + 4 + 4 + 4 + k - 16 = k by omega])
    exact ⟨_, rfl, Or.inr ⟨by omega, by omega, g4⟩⟩
  · refine hA_const (k := (-1)) (zs_iconst (v := (-1)) em134_13 (by decide +kernel)) (by decide +kernel) (fun z13 hz13 => ?_)
    refine hA_ireturn ⟨rfl, em134_14⟩ ⟨Nat.le_refl _, Nat.le_refl _⟩ ?_
    intro a' b' c' e' f' he
    cases he
    exact ⟨_, rfl, Or.inl ⟨by omega, by omega, rfl⟩⟩
theorem em72_0 : decode prog_1_method_4_code 0 = .ok (.iload_n 1, 1) := by decide +kernel
theorem em72_1 : decode prog_1_method_4_code 1 = .ok (.ifCond .lt 11, 3) := by decide +kernel
theorem em72_4 : decode prog_1_method_4_code 4 = .ok (.iload_n 1, 1) := by decide +kernel
theorem em72_5 : decode prog_1_method_4_code 5 = .ok (.aload_n 0, 1) := by decide +kernel
theorem em72_6 : decode prog_1_method_4_code 6 = .ok (.getfield 13, 3) := by decide +kernel
theorem em72_9 : decode prog_1_method_4_code 9 = .ok (.if_icmp .le 5, 3) := by decide +kernel
theorem em72_12 : decode prog_1_method_4_code 12 = .ok (.iconst (-1), 1) := by decide +kernel
theorem em72_13 : decode prog_1_method_4_code 13 = .ok (.ireturn, 1) := by decide +kernel
theorem em72_14 : decode prog_1_method_4_code 14 = .ok (.aload_n 0, 1) := by decide +kernel
theorem em72_15 : decode prog_1_method_4_code 15 = .ok (.dup, 1) := by decide +kernel
theorem em72_16 : decode prog_1_method_4_code 16 = .ok (.getfield 13, 3) := by decide +kernel
theorem em72_19 : decode prog_1_method_4_code 19 = .ok (.iload_n 1, 1) := by decide +kernel
theorem em72_20 : decode prog_1_method_4_code 20 = .ok (.isub, 1) := by decide +kernel
theorem em72_21 : decode prog_1_method_4_code 21 = .ok (.putfield 13, 3) := by decide +kernel
theorem em72_24 : decode prog_1_method_4_code 24 = .ok (.aload_n 0, 1) := by decide +kernel
theorem em72_25 : decode prog_1_method_4_code 25 = .ok (.getfield 13, 3) := by decide +kernel
theorem em72_28 : decode prog_1_method_4_code 28 = .ok (.ireturn, 1) := by decide +kernel
set_option maxRecDepth 10000 in
set_option maxHeartbeats 4000000 in
theorem hM_277 : zOKx 277 := by
  intro d hc as I q h hq
  have h : hpr_277 (d + 1) as I := h
  obtain ⟨hd, a, rfl, hpre⟩ := h
  cases (show some _ = some q from hq)
  refine hmet (L := [some (.inr (.inl (some 0))), some (.inl a)]) (by decide) (Nat.le_of_ble_eq_true rfl) hc rfl ?_
  obtain ⟨hp0, hp1⟩ := hpre
  refine hA_iload (zs_iload_n em72_0) rfl ?_
  refine hA_if (zs_iflt em72_1 (t := 12) (by decide)) (fun (c1 : a.toInt < 0) => ?_) (fun (c1 : ¬ a.toInt < 0) => ?_)
  · refine hA_const (k := (-1)) (zs_iconst (v := (-1)) em72_12 (by decide +kernel)) (by decide +kernel) (fun z12 hz12 => ?_)
    refine hA_ireturn ⟨rfl, em72_13⟩ ⟨Nat.le_refl _, Nat.le_refl _⟩ ?_
    intro a' he
    cases he
    exact ⟨_, rfl, Or.inl ⟨by omega, by omega, rfl⟩⟩
  · refine hA_iload (zs_iload_n em72_4) rfl ?_
    refine hA_aload (zs_aload_n em72_5) rfl ?_
    refine hA_getf0 (id := 1) (zs_getf (T := TX11) (M := 16) (ci := 11) (j := 6) em72_6 rfl inX11 (by decide) wd_554) ⟨_, rfl, rfl⟩ (fun z6 hz6 => ?_)
    refine hA_icmp (zs_icmple em72_9 (t := 14) (by decide)) (fun (c9 : a.toInt ≤ z6.toInt) => ?_) (fun (c9 : ¬ a.toInt ≤ z6.toInt) => ?_)
    · refine hA_aload (zs_aload_n em72_14) rfl ?_
      refine hA_dup (zs_dup em72_15) rfl ?_
      refine hA_getf0 (id := 1) (zs_getf (T := TX11) (M := 16) (ci := 11) (j := 6) em72_16 rfl inX11 (by decide) wd_554) ⟨_, rfl, rfl⟩ (fun z16 hz16 => ?_)
      refine hA_iload (zs_iload_n em72_19) rfl ?_
      refine hA_sub (zs_isub em72_20) (by omega) (by omega) (fun z20 hz20 => ?_)
      refine hA_puti0 (id := 1) (zs_puti zInj0 (T := TX11) (M := 16) (ty := tyX11) (ci := 11) (j := 6) (kd := 0) em72_21 rfl inX11 tyX11_ok nmX11 (by decide) wd_554 (Or.inl ⟨rfl, rfl⟩) rfl) ⟨_, rfl, rfl⟩ (fun h => by cases h) ?_
      refine hA_aload (zs_aload_n em72_24) rfl ?_
      refine hA_getf0 (id := 1) (zs_getf (T := TX11) (M := 16) (ci := 11) (j := 6) em72_25 rfl inX11 (by decide) wd_554) ⟨_, rfl, rfl⟩ (fun z25 hz25 => ?_)
      rw [zf_same] at hz25
      refine hA_ireturn ⟨rfl, em72_28⟩ ⟨Nat.le_refl _, Nat.le_refl _⟩ ?_
      intro a' he
      cases he
      exact ⟨_, rfl, Or.inr ⟨by omega, by omega, z20, by omega, by omega, rfl⟩⟩
    · refine hA_const (k := (-1)) (zs_iconst (v := (-1)) em72_12 (by decide +kernel)) (by decide +kernel) (fun z12' hz12' => ?_)
      refine hA_ireturn ⟨rfl, em72_13⟩ ⟨Nat.le_refl _, Nat.le_refl _⟩ ?_
      intro a' he
      cases he
      exact ⟨_, rfl, Or.inl ⟨by omega, by omega, rfl⟩⟩
theorem em119_0 : decode prog_14_method_5_code 0 = .ok (.iload_n 1, 1) := by decide +kernel
theorem em119_1 : decode prog_14_method_5_code 1 = .ok (.ifCond .lt 11, 3) := by decide +kernel
theorem em119_4 : decode prog_14_method_5_code 4 = .ok (.iload_n 1, 1) := by decide +kernel
theorem em119_5 : decode prog_14_method_5_code 5 = .ok (.aload_n 0, 1) := by decide +kernel
theorem em119_6 : decode prog_14_method_5_code 6 = .ok (.getfield 163, 3) := by decide +kernel
theorem em119_9 : decode prog_14_method_5_code 9 = .ok (.if_icmp .le 5, 3) := by decide +kernel
theorem em119_12 : decode prog_14_method_5_code 12 = .ok (.iconst (-1), 1) := by decide +kernel
theorem em119_13 : decode prog_14_method_5_code 13 = .ok (.ireturn, 1) := by decide +kernel
theorem em119_14 : decode prog_14_method_5_code 14 = .ok (.aload_n 0, 1) := by decide +kernel
theorem em119_15 : decode prog_14_method_5_code 15 = .ok (.dup, 1) := by decide +kernel
theorem em119_16 : decode prog_14_method_5_code 16 = .ok (.getfield 163, 3) := by decide +kernel
theorem em119_19 : decode prog_14_method_5_code 19 = .ok (.iload_n 1, 1) := by decide +kernel
theorem em119_20 : decode prog_14_method_5_code 20 = .ok (.isub, 1) := by decide +kernel
theorem em119_21 : decode prog_14_method_5_code 21 = .ok (.putfield 163, 3) := by decide +kernel
theorem em119_24 : decode prog_14_method_5_code 24 = .ok (.aload_n 0, 1) := by decide +kernel
theorem em119_25 : decode prog_14_method_5_code 25 = .ok (.getfield 163, 3) := by decide +kernel
theorem em119_28 : decode prog_14_method_5_code 28 = .ok (.ireturn, 1) := by decide +kernel
set_option maxRecDepth 10000 in
set_option maxHeartbeats 4000000 in
theorem hM_278 : zOKx 278 := by
  intro d hc as I q h hq
  have h : hpr_278 (d + 1) as I := h
  obtain ⟨hd, a, rfl, hpre⟩ := h
  cases (show some _ = some q from hq)
  refine hmet (L := [some (.inr (.inl (some 75))), some (.inl a)]) (by decide) (Nat.le_of_ble_eq_true rfl) hc rfl ?_
  obtain ⟨hp0, hp1⟩ := hpre
  refine hA_iload (zs_iload_n em119_0) rfl ?_
  refine hA_if (zs_iflt em119_1 (t := 12) (by decide)) (fun (c1 : a.toInt < 0) => ?_) (fun (c1 : ¬ a.toInt < 0) => ?_)
  · refine hA_const (k := (-1)) (zs_iconst (v := (-1)) em119_12 (by decide +kernel)) (by decide +kernel) (fun z12 hz12 => ?_)
    refine hA_ireturn ⟨rfl, em119_13⟩ ⟨Nat.le_refl _, Nat.le_refl _⟩ ?_
    intro a' he
    cases he
    exact ⟨_, rfl, Or.inl ⟨by omega, by omega, rfl⟩⟩
  · refine hA_iload (zs_iload_n em119_4) rfl ?_
    refine hA_aload (zs_aload_n em119_5) rfl ?_
    refine hA_getf0 (id := 10) (zs_getf (T := TX12) (M := 70) (ci := 12) (j := 12) em119_6 rfl inX12 (by decide) wd_1283) ⟨_, rfl, rfl⟩ (fun z6 hz6 => ?_)
    refine hA_icmp (zs_icmple em119_9 (t := 14) (by decide)) (fun (c9 : a.toInt ≤ z6.toInt) => ?_) (fun (c9 : ¬ a.toInt ≤ z6.toInt) => ?_)
    · refine hA_aload (zs_aload_n em119_14) rfl ?_
      refine hA_dup (zs_dup em119_15) rfl ?_
      refine hA_getf0 (id := 10) (zs_getf (T := TX12) (M := 70) (ci := 12) (j := 12) em119_16 rfl inX12 (by decide) wd_1283) ⟨_, rfl, rfl⟩ (fun z16 hz16 => ?_)
      refine hA_iload (zs_iload_n em119_19) rfl ?_
      refine hA_sub (zs_isub em119_20) (by omega) (by omega) (fun z20 hz20 => ?_)
      refine hA_puti0 (id := 10) (zs_puti zInj0 (T := TX12) (M := 70) (ty := tyX12) (ci := 12) (j := 12) (kd := 0) em119_21 rfl inX12 tyX12_ok nmX12 (by decide) wd_1283 (Or.inl ⟨rfl, rfl⟩) rfl) ⟨_, rfl, rfl⟩ (fun h => by cases h) ?_
      refine hA_aload (zs_aload_n em119_24) rfl ?_
      refine hA_getf0 (id := 10) (zs_getf (T := TX12) (M := 70) (ci := 12) (j := 12) em119_25 rfl inX12 (by decide) wd_1283) ⟨_, rfl, rfl⟩ (fun z25 hz25 => ?_)
      rw [zf_same] at hz25
      refine hA_ireturn ⟨rfl, em119_28⟩ ⟨Nat.le_refl _, Nat.le_refl _⟩ ?_
      intro a' he
      cases he
      exact ⟨_, rfl, Or.inr ⟨by omega, by omega, z20, by omega, by omega, rfl⟩⟩
    · refine hA_const (k := (-1)) (zs_iconst (v := (-1)) em119_12 (by decide +kernel)) (by decide +kernel) (fun z12' hz12' => ?_)
      refine hA_ireturn ⟨rfl, em119_13⟩ ⟨Nat.le_refl _, Nat.le_refl _⟩ ?_
      intro a' he
      cases he
      exact ⟨_, rfl, Or.inl ⟨by omega, by omega, rfl⟩⟩
