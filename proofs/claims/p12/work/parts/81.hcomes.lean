theorem em229_0 : decode prog_14_method_36_code 0 = .ok (.aload_n 0, 1) := by decide +kernel
theorem em229_1 : decode prog_14_method_36_code 1 = .ok (.getfield 307, 3) := by decide +kernel
theorem em229_4 : decode prog_14_method_36_code 4 = .ok (.ifCond .le 87, 3) := by decide +kernel
theorem em229_7 : decode prog_14_method_36_code 7 = .ok (.aload_n 0, 1) := by decide +kernel
theorem em229_8 : decode prog_14_method_36_code 8 = .ok (.getfield 104, 3) := by decide +kernel
theorem em229_11 : decode prog_14_method_36_code 11 = .ok (.aload_n 0, 1) := by decide +kernel
theorem em229_12 : decode prog_14_method_36_code 12 = .ok (.getfield 307, 3) := by decide +kernel
theorem em229_15 : decode prog_14_method_36_code 15 = .ok (.iconst 1, 1) := by decide +kernel
theorem em229_16 : decode prog_14_method_36_code 16 = .ok (.isub, 1) := by decide +kernel
theorem em229_17 : decode prog_14_method_36_code 17 = .ok (.iaload, 1) := by decide +kernel
theorem em229_18 : decode prog_14_method_36_code 18 = .ok (.istore_n 2, 1) := by decide +kernel
theorem em229_19 : decode prog_14_method_36_code 19 = .ok (.iload_n 2, 1) := by decide +kernel
theorem em229_20 : decode prog_14_method_36_code 20 = .ok (.bipush 6, 2) := by decide +kernel
theorem em229_22 : decode prog_14_method_36_code 22 = .ok (.if_icmp .eq 19, 3) := by decide +kernel
theorem em229_25 : decode prog_14_method_36_code 25 = .ok (.iload_n 1, 1) := by decide +kernel
theorem em229_26 : decode prog_14_method_36_code 26 = .ok (.ifCond .eq 16, 3) := by decide +kernel
theorem em229_29 : decode prog_14_method_36_code 29 = .ok (.iload_n 2, 1) := by decide +kernel
theorem em229_30 : decode prog_14_method_36_code 30 = .ok (.bipush 8, 2) := by decide +kernel
theorem em229_32 : decode prog_14_method_36_code 32 = .ok (.if_icmp .eq 9, 3) := by decide +kernel
theorem em229_35 : decode prog_14_method_36_code 35 = .ok (.iload_n 2, 1) := by decide +kernel
theorem em229_36 : decode prog_14_method_36_code 36 = .ok (.bipush 9, 2) := by decide +kernel
theorem em229_38 : decode prog_14_method_36_code 38 = .ok (.if_icmp .ne 4, 3) := by decide +kernel
theorem em229_41 : decode prog_14_method_36_code 41 = .ok (.return_, 1) := by decide +kernel
theorem em229_42 : decode prog_14_method_36_code 42 = .ok (.aload_n 0, 1) := by decide +kernel
theorem em229_43 : decode prog_14_method_36_code 43 = .ok (.dup, 1) := by decide +kernel
theorem em229_44 : decode prog_14_method_36_code 44 = .ok (.getfield 307, 3) := by decide +kernel
theorem em229_47 : decode prog_14_method_36_code 47 = .ok (.iconst 1, 1) := by decide +kernel
theorem em229_48 : decode prog_14_method_36_code 48 = .ok (.isub, 1) := by decide +kernel
theorem em229_49 : decode prog_14_method_36_code 49 = .ok (.putfield 307, 3) := by decide +kernel
theorem em229_52 : decode prog_14_method_36_code 52 = .ok (.aload_n 0, 1) := by decide +kernel
theorem em229_53 : decode prog_14_method_36_code 53 = .ok (.iload_n 2, 1) := by decide +kernel
theorem em229_54 : decode prog_14_method_36_code 54 = .ok (.bipush 8, 2) := by decide +kernel
theorem em229_56 : decode prog_14_method_36_code 56 = .ok (.if_icmp .ne 7, 3) := by decide +kernel
theorem em229_59 : decode prog_14_method_36_code 59 = .ok (.iconst 2, 1) := by decide +kernel
theorem em229_60 : decode prog_14_method_36_code 60 = .ok (.goto 24, 3) := by decide +kernel
theorem em229_63 : decode prog_14_method_36_code 63 = .ok (.iload_n 2, 1) := by decide +kernel
theorem em229_64 : decode prog_14_method_36_code 64 = .ok (.bipush 9, 2) := by decide +kernel
theorem em229_66 : decode prog_14_method_36_code 66 = .ok (.if_icmp .ne 7, 3) := by decide +kernel
theorem em229_69 : decode prog_14_method_36_code 69 = .ok (.iconst 3, 1) := by decide +kernel
theorem em229_70 : decode prog_14_method_36_code 70 = .ok (.goto 14, 3) := by decide +kernel
theorem em229_73 : decode prog_14_method_36_code 73 = .ok (.iload_n 2, 1) := by decide +kernel
theorem em229_74 : decode prog_14_method_36_code 74 = .ok (.bipush 10, 2) := by decide +kernel
theorem em229_76 : decode prog_14_method_36_code 76 = .ok (.if_icmp .ne 7, 3) := by decide +kernel
theorem em229_79 : decode prog_14_method_36_code 79 = .ok (.iconst 4, 1) := by decide +kernel
theorem em229_80 : decode prog_14_method_36_code 80 = .ok (.goto 4, 3) := by decide +kernel
theorem em229_83 : decode prog_14_method_36_code 83 = .ok (.iconst 5, 1) := by decide +kernel
theorem em229_84 : decode prog_14_method_36_code 84 = .ok (.iconst 0, 1) := by decide +kernel
theorem em229_85 : decode prog_14_method_36_code 85 = .ok (.invokevirtual 310, 3) := by decide +kernel
theorem em229_88 : decode prog_14_method_36_code 88 = .ok (.goto (-88), 3) := by decide +kernel
theorem em229_91 : decode prog_14_method_36_code 91 = .ok (.return_, 1) := by decide +kernel
set_option maxRecDepth 10000 in
set_option maxHeartbeats 4000000 in
theorem hM_261 : zOKx 261 := by
  intro d hc as I q h hq
  have h : hpr_261 (d + 1) as I := h
  obtain ⟨hd, a, rfl, hpre⟩ := h
  cases (show some _ = some q from hq)
  obtain ⟨⟨ha0, ha1⟩, c0, n0, o, k, hcok, hroom, hm⟩ := hpre
  have loop : ∀ (n : Nat) (IJ : zI) (hcf : cFr I IJ) (c0 : Int) (m o0 k0 : Nat) (hcok : cOK IJ c0 m o0 k0) (hroom : zf IJ 17 + (m : Int) ≤ 839) (hm : m ≤ 63) (hall : ∀ (c1 : Int) (n' o k : Nat), cOK I c1 n' o k → ∃ k', cOK IJ c1 m o k' ∧ zf IJ 17 + (m : Int) = zf I 17 + (n' : Int) ∧ m ≤ n'), m = n → zAt zG0 PZ zbd zpre zpost (d, (zbd 261).1, (zbd 261).2) prog_14_method_36_code "CapitalCaseModel" (zRet prog_14_method_36_code none (zbd 261) (hpost 261 [.inr (.inl (some 75)), .inl a] I)) 0 [some (.inr (.inl (some 75))), some (.inl a), none] [] IJ (0, 0) := by
    intro n
    induction n using Nat.strongRecOn with
    | ind n ih =>
      intro IJ hcf c0 m o0 k0 hcok hroom hm hall hn
      have h18 := hcok.1
      have h17 : 0 ≤ zf IJ 17 := by have := hcok.2.2.1; have := hcok.2.2.2.1; omega
      refine hA_aload (zs_aload_n em229_0) rfl ?_
      refine hA_getf0 (id := 18) (zs_getf (T := TX12) (M := 70) (ci := 12) (j := 55) em229_1 rfl inX12 (by decide) wd_1327 ((congrFun xo_12 307).trans rfl)) ⟨_, rfl, rfl⟩ (fun z1 hz1 => ?_)
      refine hA_if (zs_ifle em229_4 (t := 91) (by decide)) (fun (c4 : z1.toInt ≤ 0) => ?_) (fun (c4 : ¬ z1.toInt ≤ 0) => ?_)
      · refine hA_return ⟨rfl, em229_91⟩ ⟨Nat.le_refl _, Nat.le_refl _⟩ ?_
        intro a' he
        cases he
        refine ⟨rfl, hcf, fun c1 n' o k hk => ?_⟩
        obtain ⟨k2, e1, e2, e3⟩ := hall c1 n' o k hk
        obtain ⟨t1, t2, t3⟩ := cTop e1
        have h18' := e1.1
        refine ⟨m, k2, e1, ?_, ?_, e2, e3⟩
        · by_cases hm0 : m = 0
          · have := t1 hm0; omega
          · exfalso; omega
        · intro ha0
          by_cases hm0 : m = 0
          · exact t1 hm0
          · exfalso; omega
      · refine hA_aload (zs_aload_n em229_7) rfl ?_
        refine hA_getf2 (r := 104) (zs_getf (T := TX12) (M := 70) (ci := 12) (j := 54) em229_8 rfl inX12 (by decide) wd_1326 ((congrFun xo_12 104).trans rfl)) ⟨_, rfl, rfl⟩ ?_
        refine hA_aload (zs_aload_n em229_11) rfl ?_
        refine hA_getf0 (id := 18) (zs_getf (T := TX12) (M := 70) (ci := 12) (j := 55) em229_12 rfl inX12 (by decide) wd_1327 ((congrFun xo_12 307).trans rfl)) ⟨_, rfl, rfl⟩ (fun z12 hz12 => ?_)
        refine hA_const (k := 1) (zs_iconst (v := 1) em229_15 (by decide +kernel)) (by decide +kernel) (fun z15 hz15 => ?_)
        refine hA_sub (zs_isub em229_16) (by omega) (by omega) (fun z16 hz16 => ?_)
        refine hA_iald (kd := 104) (len := 64) (zs_iald em229_17) ⟨rfl, rfl, rfl⟩ (by omega) (by show _ < ((64 : Nat) : Int); omega) (fun z17 hz17 => ?_)
        refine hA_istore (L' := [some (.inr (.inl (some 75))), some (.inl a), some (.inl z17)]) (zs_istore_n em229_18) ⟨Nat.le_of_ble_eq_true rfl, rfl⟩ rfl ?_
        refine hA_iload (zs_iload_n em229_19) rfl ?_
        refine hA_const (k := 6) (zs_bipush (v := 6) em229_20 (by decide +kernel)) (by decide +kernel) (fun z20 hz20 => ?_)
        refine hA_icmp (zs_icmpeq em229_22 (t := 41) (by decide)) (fun (c22 : z17.toInt = z20.toInt) => ?_) (fun (c22 : ¬ z17.toInt = z20.toInt) => ?_)
        · refine hA_return ⟨rfl, em229_41⟩ ⟨Nat.le_refl _, Nat.le_refl _⟩ ?_
          intro a' he
          cases he
          refine ⟨rfl, hcf, fun c1 n' o k hk => ?_⟩
          obtain ⟨k2, e1, e2, e3⟩ := hall c1 n' o k hk
          obtain ⟨t1, t2, t3⟩ := cTop e1
          have h18' := e1.1
          refine ⟨m, k2, e1, ?_, ?_, e2, e3⟩
          · by_cases hm0 : m = 0
            · have := t1 hm0; omega
            · have e16 : z16.toInt = (m : Int) - 1 := by omega
              rw [e16] at hz17
              have hw : zv IJ 104 ((m : Int) - 1) = 6 ∨ (zv IJ 104 ((m : Int) - 1) = 8 ∨ zv IJ 104 ((m : Int) - 1) = 9) := by omega
              rcases hw with hw | hw
              · have := t2 (by omega) hw; omega
              · have := t3 (by omega) hw; omega
          · intro ha0
            by_cases hm0 : m = 0
            · exact t1 hm0
            · have e16 : z16.toInt = (m : Int) - 1 := by omega
              rw [e16] at hz17
              exact t2 (by omega) (by omega)
        · refine hA_iload (zs_iload_n em229_25) rfl ?_
          refine hA_if (zs_ifeq em229_26 (t := 42) (by decide)) (fun (c26 : a.toInt = 0) => ?_) (fun (c26 : ¬ a.toInt = 0) => ?_)
          · refine hA_aload (zs_aload_n em229_42) rfl ?_
            refine hA_dup (zs_dup em229_43) rfl ?_
            refine hA_getf0 (id := 18) (zs_getf (T := TX12) (M := 70) (ci := 12) (j := 55) em229_44 rfl inX12 (by decide) wd_1327 ((congrFun xo_12 307).trans rfl)) ⟨_, rfl, rfl⟩ (fun z44 hz44 => ?_)
            refine hA_const (k := 1) (zs_iconst (v := 1) em229_47 (by decide +kernel)) (by decide +kernel) (fun z47 hz47 => ?_)
            refine hA_sub (zs_isub em229_48) (by omega) (by omega) (fun z48 hz48 => ?_)
            refine hA_puti0 (id := 18) (zs_puti zInj0 (T := TX12) (M := 70) (ty := tyX12) (ci := 12) (j := 55) (kd := 0) em229_49 rfl inX12 tyX12_ok nmX12 (by decide) wd_1327 (Or.inl ⟨rfl, rfl⟩) rfl ((congrFun xo_12 307).trans rfl)) ⟨_, rfl, rfl⟩ (fun h => by cases h) ?_
            refine hA_aload (zs_aload_n em229_52) rfl ?_
            refine hA_iload (zs_iload_n em229_53) rfl ?_
            refine hA_const (k := 8) (zs_bipush (v := 8) em229_54 (by decide +kernel)) (by decide +kernel) (fun z54 hz54 => ?_)
            refine hA_icmp (zs_icmpne em229_56 (t := 63) (by decide)) (fun (c56 : ¬ z17.toInt = z54.toInt) => ?_) (fun (c56 : ¬ ¬ z17.toInt = z54.toInt) => ?_)
            · refine hA_iload (zs_iload_n em229_63) rfl ?_
              refine hA_const (k := 9) (zs_bipush (v := 9) em229_64 (by decide +kernel)) (by decide +kernel) (fun z64 hz64 => ?_)
              refine hA_icmp (zs_icmpne em229_66 (t := 73) (by decide)) (fun (c66 : ¬ z17.toInt = z64.toInt) => ?_) (fun (c66 : ¬ ¬ z17.toInt = z64.toInt) => ?_)
              · refine hA_iload (zs_iload_n em229_73) rfl ?_
                refine hA_const (k := 10) (zs_bipush (v := 10) em229_74 (by decide +kernel)) (by decide +kernel) (fun z74 hz74 => ?_)
                refine hA_icmp (zs_icmpne em229_76 (t := 83) (by decide)) (fun (c76 : ¬ z17.toInt = z74.toInt) => ?_) (fun (c76 : ¬ ¬ z17.toInt = z74.toInt) => ?_)
                · refine hA_const (k := 5) (zs_iconst (v := 5) em229_83 (by decide +kernel)) (by decide +kernel) (fun z83 hz83 => ?_)
                  refine hA_const (k := 0) (zs_iconst (v := 0) em229_84 (by decide +kernel)) (by decide +kernel) (fun z84 hz84 => ?_)
                  refine hA_callV (as := [.inl z83, .inl z84]) (rest := []) (B' := (0, 0)) (zs_invV (T := TX12) em229_85 zl_260 rfl wd_1605 wd_1607 wd_69 ((congrFun xo_12 310).trans rfl) xm_228) rfl ⟨_, rfl⟩ (Nat.le_of_ble_eq_true rfl) rfl ⟨Nat.zero_le _, Nat.zero_le _⟩ (hpre_of rfl (show hpr_260 d [.inr (.inl (some 75)), .inl z83, .inl z84] (zupd IJ 18 z48) from ⟨by show 1 ≤ d; omega, z83, z84, rfl, ⟨by rw [zf_ne (by decide)]; omega, by rw [zf_ne (by decide)]; omega⟩⟩)) (fun r85 I85 hp85 => ?_)
                  replace hp85 : hpo_260 _ _ _ _ := hpost_of rfl hp85
                  replace hp85 := hp85 z83 z84 rfl
                  obtain ⟨rfl, i85, u85, hi85, hu85, rfl⟩ := hp85
                  rw [zf_ne (by decide)] at hi85 hu85
                  refine hA_goto (zs_goto em229_88 (t := 0) (by decide)) ?_
                  refine hA_fg (L' := [some (.inr (.inl (some 75))), some (.inl a), none]) (by repeat (first | exact trivial | refine And.intro rfl ?_)) ?_
                  obtain ⟨m1, rfl⟩ : ∃ m1, m = m1 + 1 := ⟨m - 1, by omega⟩
                  have hx6 : ¬ zv IJ 104 (m1 : Int) = 6 := by rw [show (m1 : Int) = z16.toInt by omega]; omega
                  have hst := cStep (v := z48) (i := i85) (x := z83) (y := z84) (u := u85) hcok hx6 (by omega) (by omega) (by omega) (by omega) ⟨by omega, by omega⟩
                  obtain ⟨k1, hk1⟩ := hst.2
                  have hnew17 : zf (zupd (zupd (zupd (zupd IJ 18 z48) (zid 101 i85.toInt.toNat) z83) (zid 102 i85.toInt.toNat) z84) 17 u85) 17 = zf IJ 17 + 1 := by rw [zf_same]; omega
                  refine ih m1 (by omega) _ (cFr_tr hcf hst.1) c0 m1 o0 k1 hk1 (by omega) (by omega) (fun c1 n' o k hk => ?_) rfl
                  obtain ⟨k2, e1, e2, e3⟩ := hall c1 n' o k hk
                  obtain ⟨-, k3, hk3⟩ := cStep (v := z48) (i := i85) (x := z83) (y := z84) (u := u85) e1 hx6 (by omega) (by omega) (by omega) (by omega) ⟨by omega, by omega⟩
                  exact ⟨k3, hk3, by omega, by omega⟩
                · refine hA_const (k := 4) (zs_iconst (v := 4) em229_79 (by decide +kernel)) (by decide +kernel) (fun z79 hz79 => ?_)
                  refine hA_goto (zs_goto em229_80 (t := 84) (by decide)) ?_
                  refine hA_const (k := 0) (zs_iconst (v := 0) em229_84 (by decide +kernel)) (by decide +kernel) (fun z84' hz84' => ?_)
                  refine hA_callV (as := [.inl z79, .inl z84']) (rest := []) (B' := (0, 0)) (zs_invV (T := TX12) em229_85 zl_260 rfl wd_1605 wd_1607 wd_69 ((congrFun xo_12 310).trans rfl) xm_228) rfl ⟨_, rfl⟩ (Nat.le_of_ble_eq_true rfl) rfl ⟨Nat.zero_le _, Nat.zero_le _⟩ (hpre_of rfl (show hpr_260 d [.inr (.inl (some 75)), .inl z79, .inl z84'] (zupd IJ 18 z48) from ⟨by show 1 ≤ d; omega, z79, z84', rfl, ⟨by rw [zf_ne (by decide)]; omega, by rw [zf_ne (by decide)]; omega⟩⟩)) (fun r85 I85 hp85 => ?_)
                  replace hp85 : hpo_260 _ _ _ _ := hpost_of rfl hp85
                  replace hp85 := hp85 z79 z84' rfl
                  obtain ⟨rfl, i85', u85', hi85', hu85', rfl⟩ := hp85
                  rw [zf_ne (by decide)] at hi85' hu85'
                  refine hA_goto (zs_goto em229_88 (t := 0) (by decide)) ?_
                  refine hA_fg (L' := [some (.inr (.inl (some 75))), some (.inl a), none]) (by repeat (first | exact trivial | refine And.intro rfl ?_)) ?_
                  obtain ⟨m1, rfl⟩ : ∃ m1, m = m1 + 1 := ⟨m - 1, by omega⟩
                  have hx6 : ¬ zv IJ 104 (m1 : Int) = 6 := by rw [show (m1 : Int) = z16.toInt by omega]; omega
                  have hst := cStep (v := z48) (i := i85') (x := z79) (y := z84') (u := u85') hcok hx6 (by omega) (by omega) (by omega) (by omega) ⟨by omega, by omega⟩
                  obtain ⟨k1, hk1⟩ := hst.2
                  have hnew17 : zf (zupd (zupd (zupd (zupd IJ 18 z48) (zid 101 i85'.toInt.toNat) z79) (zid 102 i85'.toInt.toNat) z84') 17 u85') 17 = zf IJ 17 + 1 := by rw [zf_same]; omega
                  refine ih m1 (by omega) _ (cFr_tr hcf hst.1) c0 m1 o0 k1 hk1 (by omega) (by omega) (fun c1 n' o k hk => ?_) rfl
                  obtain ⟨k2, e1, e2, e3⟩ := hall c1 n' o k hk
                  obtain ⟨-, k3, hk3⟩ := cStep (v := z48) (i := i85') (x := z79) (y := z84') (u := u85') e1 hx6 (by omega) (by omega) (by omega) (by omega) ⟨by omega, by omega⟩
                  exact ⟨k3, hk3, by omega, by omega⟩
              · refine hA_const (k := 3) (zs_iconst (v := 3) em229_69 (by decide +kernel)) (by decide +kernel) (fun z69 hz69 => ?_)
                refine hA_goto (zs_goto em229_70 (t := 84) (by decide)) ?_
                refine hA_const (k := 0) (zs_iconst (v := 0) em229_84 (by decide +kernel)) (by decide +kernel) (fun z84'' hz84'' => ?_)
                refine hA_callV (as := [.inl z69, .inl z84'']) (rest := []) (B' := (0, 0)) (zs_invV (T := TX12) em229_85 zl_260 rfl wd_1605 wd_1607 wd_69 ((congrFun xo_12 310).trans rfl) xm_228) rfl ⟨_, rfl⟩ (Nat.le_of_ble_eq_true rfl) rfl ⟨Nat.zero_le _, Nat.zero_le _⟩ (hpre_of rfl (show hpr_260 d [.inr (.inl (some 75)), .inl z69, .inl z84''] (zupd IJ 18 z48) from ⟨by show 1 ≤ d; omega, z69, z84'', rfl, ⟨by rw [zf_ne (by decide)]; omega, by rw [zf_ne (by decide)]; omega⟩⟩)) (fun r85 I85 hp85 => ?_)
                replace hp85 : hpo_260 _ _ _ _ := hpost_of rfl hp85
                replace hp85 := hp85 z69 z84'' rfl
                obtain ⟨rfl, i85'', u85'', hi85'', hu85'', rfl⟩ := hp85
                rw [zf_ne (by decide)] at hi85'' hu85''
                refine hA_goto (zs_goto em229_88 (t := 0) (by decide)) ?_
                refine hA_fg (L' := [some (.inr (.inl (some 75))), some (.inl a), none]) (by repeat (first | exact trivial | refine And.intro rfl ?_)) ?_
                obtain ⟨m1, rfl⟩ : ∃ m1, m = m1 + 1 := ⟨m - 1, by omega⟩
                have hx6 : ¬ zv IJ 104 (m1 : Int) = 6 := by rw [show (m1 : Int) = z16.toInt by omega]; omega
                have hst := cStep (v := z48) (i := i85'') (x := z69) (y := z84'') (u := u85'') hcok hx6 (by omega) (by omega) (by omega) (by omega) ⟨by omega, by omega⟩
                obtain ⟨k1, hk1⟩ := hst.2
                have hnew17 : zf (zupd (zupd (zupd (zupd IJ 18 z48) (zid 101 i85''.toInt.toNat) z69) (zid 102 i85''.toInt.toNat) z84'') 17 u85'') 17 = zf IJ 17 + 1 := by rw [zf_same]; omega
                refine ih m1 (by omega) _ (cFr_tr hcf hst.1) c0 m1 o0 k1 hk1 (by omega) (by omega) (fun c1 n' o k hk => ?_) rfl
                obtain ⟨k2, e1, e2, e3⟩ := hall c1 n' o k hk
                obtain ⟨-, k3, hk3⟩ := cStep (v := z48) (i := i85'') (x := z69) (y := z84'') (u := u85'') e1 hx6 (by omega) (by omega) (by omega) (by omega) ⟨by omega, by omega⟩
                exact ⟨k3, hk3, by omega, by omega⟩
            · refine hA_const (k := 2) (zs_iconst (v := 2) em229_59 (by decide +kernel)) (by decide +kernel) (fun z59 hz59 => ?_)
              refine hA_goto (zs_goto em229_60 (t := 84) (by decide)) ?_
              refine hA_const (k := 0) (zs_iconst (v := 0) em229_84 (by decide +kernel)) (by decide +kernel) (fun z84_3 hz84_3 => ?_)
              refine hA_callV (as := [.inl z59, .inl z84_3]) (rest := []) (B' := (0, 0)) (zs_invV (T := TX12) em229_85 zl_260 rfl wd_1605 wd_1607 wd_69 ((congrFun xo_12 310).trans rfl) xm_228) rfl ⟨_, rfl⟩ (Nat.le_of_ble_eq_true rfl) rfl ⟨Nat.zero_le _, Nat.zero_le _⟩ (hpre_of rfl (show hpr_260 d [.inr (.inl (some 75)), .inl z59, .inl z84_3] (zupd IJ 18 z48) from ⟨by show 1 ≤ d; omega, z59, z84_3, rfl, ⟨by rw [zf_ne (by decide)]; omega, by rw [zf_ne (by decide)]; omega⟩⟩)) (fun r85 I85 hp85 => ?_)
              replace hp85 : hpo_260 _ _ _ _ := hpost_of rfl hp85
              replace hp85 := hp85 z59 z84_3 rfl
              obtain ⟨rfl, i85_3, u85_3, hi85_3, hu85_3, rfl⟩ := hp85
              rw [zf_ne (by decide)] at hi85_3 hu85_3
              refine hA_goto (zs_goto em229_88 (t := 0) (by decide)) ?_
              refine hA_fg (L' := [some (.inr (.inl (some 75))), some (.inl a), none]) (by repeat (first | exact trivial | refine And.intro rfl ?_)) ?_
              obtain ⟨m1, rfl⟩ : ∃ m1, m = m1 + 1 := ⟨m - 1, by omega⟩
              have hx6 : ¬ zv IJ 104 (m1 : Int) = 6 := by rw [show (m1 : Int) = z16.toInt by omega]; omega
              have hst := cStep (v := z48) (i := i85_3) (x := z59) (y := z84_3) (u := u85_3) hcok hx6 (by omega) (by omega) (by omega) (by omega) ⟨by omega, by omega⟩
              obtain ⟨k1, hk1⟩ := hst.2
              have hnew17 : zf (zupd (zupd (zupd (zupd IJ 18 z48) (zid 101 i85_3.toInt.toNat) z59) (zid 102 i85_3.toInt.toNat) z84_3) 17 u85_3) 17 = zf IJ 17 + 1 := by rw [zf_same]; omega
              refine ih m1 (by omega) _ (cFr_tr hcf hst.1) c0 m1 o0 k1 hk1 (by omega) (by omega) (fun c1 n' o k hk => ?_) rfl
              obtain ⟨k2, e1, e2, e3⟩ := hall c1 n' o k hk
              obtain ⟨-, k3, hk3⟩ := cStep (v := z48) (i := i85_3) (x := z59) (y := z84_3) (u := u85_3) e1 hx6 (by omega) (by omega) (by omega) (by omega) ⟨by omega, by omega⟩
              exact ⟨k3, hk3, by omega, by omega⟩
          · refine hA_iload (zs_iload_n em229_29) rfl ?_
            refine hA_const (k := 8) (zs_bipush (v := 8) em229_30 (by decide +kernel)) (by decide +kernel) (fun z30 hz30 => ?_)
            refine hA_icmp (zs_icmpeq em229_32 (t := 41) (by decide)) (fun (c32 : z17.toInt = z30.toInt) => ?_) (fun (c32 : ¬ z17.toInt = z30.toInt) => ?_)
            · refine hA_return ⟨rfl, em229_41⟩ ⟨Nat.le_refl _, Nat.le_refl _⟩ ?_
              intro a' he
              cases he
              refine ⟨rfl, hcf, fun c1 n' o k hk => ?_⟩
              obtain ⟨k2, e1, e2, e3⟩ := hall c1 n' o k hk
              obtain ⟨t1, t2, t3⟩ := cTop e1
              have h18' := e1.1
              refine ⟨m, k2, e1, ?_, ?_, e2, e3⟩
              · by_cases hm0 : m = 0
                · have := t1 hm0; omega
                · have e16 : z16.toInt = (m : Int) - 1 := by omega
                  rw [e16] at hz17
                  have hw : zv IJ 104 ((m : Int) - 1) = 6 ∨ (zv IJ 104 ((m : Int) - 1) = 8 ∨ zv IJ 104 ((m : Int) - 1) = 9) := by omega
                  rcases hw with hw | hw
                  · have := t2 (by omega) hw; omega
                  · have := t3 (by omega) hw; omega
              · intro ha0
                by_cases hm0 : m = 0
                · exact t1 hm0
                · have e16 : z16.toInt = (m : Int) - 1 := by omega
                  rw [e16] at hz17
                  exact t2 (by omega) (by omega)
            · refine hA_iload (zs_iload_n em229_35) rfl ?_
              refine hA_const (k := 9) (zs_bipush (v := 9) em229_36 (by decide +kernel)) (by decide +kernel) (fun z36 hz36 => ?_)
              refine hA_icmp (zs_icmpne em229_38 (t := 42) (by decide)) (fun (c38 : ¬ z17.toInt = z36.toInt) => ?_) (fun (c38 : ¬ ¬ z17.toInt = z36.toInt) => ?_)
              · refine hA_aload (zs_aload_n em229_42) rfl ?_
                refine hA_dup (zs_dup em229_43) rfl ?_
                refine hA_getf0 (id := 18) (zs_getf (T := TX12) (M := 70) (ci := 12) (j := 55) em229_44 rfl inX12 (by decide) wd_1327 ((congrFun xo_12 307).trans rfl)) ⟨_, rfl, rfl⟩ (fun z44' hz44' => ?_)
                refine hA_const (k := 1) (zs_iconst (v := 1) em229_47 (by decide +kernel)) (by decide +kernel) (fun z47' hz47' => ?_)
                refine hA_sub (zs_isub em229_48) (by omega) (by omega) (fun z48' hz48' => ?_)
                refine hA_puti0 (id := 18) (zs_puti zInj0 (T := TX12) (M := 70) (ty := tyX12) (ci := 12) (j := 55) (kd := 0) em229_49 rfl inX12 tyX12_ok nmX12 (by decide) wd_1327 (Or.inl ⟨rfl, rfl⟩) rfl ((congrFun xo_12 307).trans rfl)) ⟨_, rfl, rfl⟩ (fun h => by cases h) ?_
                refine hA_aload (zs_aload_n em229_52) rfl ?_
                refine hA_iload (zs_iload_n em229_53) rfl ?_
                refine hA_const (k := 8) (zs_bipush (v := 8) em229_54 (by decide +kernel)) (by decide +kernel) (fun z54' hz54' => ?_)
                refine hA_icmp (zs_icmpne em229_56 (t := 63) (by decide)) (fun (c56' : ¬ z17.toInt = z54'.toInt) => ?_) (fun (c56' : ¬ ¬ z17.toInt = z54'.toInt) => ?_)
                · refine hA_iload (zs_iload_n em229_63) rfl ?_
                  refine hA_const (k := 9) (zs_bipush (v := 9) em229_64 (by decide +kernel)) (by decide +kernel) (fun z64' hz64' => ?_)
                  refine hA_icmp (zs_icmpne em229_66 (t := 73) (by decide)) (fun (c66' : ¬ z17.toInt = z64'.toInt) => ?_) (fun (c66' : ¬ ¬ z17.toInt = z64'.toInt) => ?_)
                  · refine hA_iload (zs_iload_n em229_73) rfl ?_
                    refine hA_const (k := 10) (zs_bipush (v := 10) em229_74 (by decide +kernel)) (by decide +kernel) (fun z74' hz74' => ?_)
                    refine hA_icmp (zs_icmpne em229_76 (t := 83) (by decide)) (fun (c76' : ¬ z17.toInt = z74'.toInt) => ?_) (fun (c76' : ¬ ¬ z17.toInt = z74'.toInt) => ?_)
                    · refine hA_const (k := 5) (zs_iconst (v := 5) em229_83 (by decide +kernel)) (by decide +kernel) (fun z83' hz83' => ?_)
                      refine hA_const (k := 0) (zs_iconst (v := 0) em229_84 (by decide +kernel)) (by decide +kernel) (fun z84_4 hz84_4 => ?_)
                      refine hA_callV (as := [.inl z83', .inl z84_4]) (rest := []) (B' := (0, 0)) (zs_invV (T := TX12) em229_85 zl_260 rfl wd_1605 wd_1607 wd_69 ((congrFun xo_12 310).trans rfl) xm_228) rfl ⟨_, rfl⟩ (Nat.le_of_ble_eq_true rfl) rfl ⟨Nat.zero_le _, Nat.zero_le _⟩ (hpre_of rfl (show hpr_260 d [.inr (.inl (some 75)), .inl z83', .inl z84_4] (zupd IJ 18 z48') from ⟨by show 1 ≤ d; omega, z83', z84_4, rfl, ⟨by rw [zf_ne (by decide)]; omega, by rw [zf_ne (by decide)]; omega⟩⟩)) (fun r85 I85 hp85 => ?_)
                      replace hp85 : hpo_260 _ _ _ _ := hpost_of rfl hp85
                      replace hp85 := hp85 z83' z84_4 rfl
                      obtain ⟨rfl, i85_4, u85_4, hi85_4, hu85_4, rfl⟩ := hp85
                      rw [zf_ne (by decide)] at hi85_4 hu85_4
                      refine hA_goto (zs_goto em229_88 (t := 0) (by decide)) ?_
                      refine hA_fg (L' := [some (.inr (.inl (some 75))), some (.inl a), none]) (by repeat (first | exact trivial | refine And.intro rfl ?_)) ?_
                      obtain ⟨m1, rfl⟩ : ∃ m1, m = m1 + 1 := ⟨m - 1, by omega⟩
                      have hx6 : ¬ zv IJ 104 (m1 : Int) = 6 := by rw [show (m1 : Int) = z16.toInt by omega]; omega
                      have hst := cStep (v := z48') (i := i85_4) (x := z83') (y := z84_4) (u := u85_4) hcok hx6 (by omega) (by omega) (by omega) (by omega) ⟨by omega, by omega⟩
                      obtain ⟨k1, hk1⟩ := hst.2
                      have hnew17 : zf (zupd (zupd (zupd (zupd IJ 18 z48') (zid 101 i85_4.toInt.toNat) z83') (zid 102 i85_4.toInt.toNat) z84_4) 17 u85_4) 17 = zf IJ 17 + 1 := by rw [zf_same]; omega
                      refine ih m1 (by omega) _ (cFr_tr hcf hst.1) c0 m1 o0 k1 hk1 (by omega) (by omega) (fun c1 n' o k hk => ?_) rfl
                      obtain ⟨k2, e1, e2, e3⟩ := hall c1 n' o k hk
                      obtain ⟨-, k3, hk3⟩ := cStep (v := z48') (i := i85_4) (x := z83') (y := z84_4) (u := u85_4) e1 hx6 (by omega) (by omega) (by omega) (by omega) ⟨by omega, by omega⟩
                      exact ⟨k3, hk3, by omega, by omega⟩
                    · refine hA_const (k := 4) (zs_iconst (v := 4) em229_79 (by decide +kernel)) (by decide +kernel) (fun z79' hz79' => ?_)
                      refine hA_goto (zs_goto em229_80 (t := 84) (by decide)) ?_
                      refine hA_const (k := 0) (zs_iconst (v := 0) em229_84 (by decide +kernel)) (by decide +kernel) (fun z84_5 hz84_5 => ?_)
                      refine hA_callV (as := [.inl z79', .inl z84_5]) (rest := []) (B' := (0, 0)) (zs_invV (T := TX12) em229_85 zl_260 rfl wd_1605 wd_1607 wd_69 ((congrFun xo_12 310).trans rfl) xm_228) rfl ⟨_, rfl⟩ (Nat.le_of_ble_eq_true rfl) rfl ⟨Nat.zero_le _, Nat.zero_le _⟩ (hpre_of rfl (show hpr_260 d [.inr (.inl (some 75)), .inl z79', .inl z84_5] (zupd IJ 18 z48') from ⟨by show 1 ≤ d; omega, z79', z84_5, rfl, ⟨by rw [zf_ne (by decide)]; omega, by rw [zf_ne (by decide)]; omega⟩⟩)) (fun r85 I85 hp85 => ?_)
                      replace hp85 : hpo_260 _ _ _ _ := hpost_of rfl hp85
                      replace hp85 := hp85 z79' z84_5 rfl
                      obtain ⟨rfl, i85_5, u85_5, hi85_5, hu85_5, rfl⟩ := hp85
                      rw [zf_ne (by decide)] at hi85_5 hu85_5
                      refine hA_goto (zs_goto em229_88 (t := 0) (by decide)) ?_
                      refine hA_fg (L' := [some (.inr (.inl (some 75))), some (.inl a), none]) (by repeat (first | exact trivial | refine And.intro rfl ?_)) ?_
                      obtain ⟨m1, rfl⟩ : ∃ m1, m = m1 + 1 := ⟨m - 1, by omega⟩
                      have hx6 : ¬ zv IJ 104 (m1 : Int) = 6 := by rw [show (m1 : Int) = z16.toInt by omega]; omega
                      have hst := cStep (v := z48') (i := i85_5) (x := z79') (y := z84_5) (u := u85_5) hcok hx6 (by omega) (by omega) (by omega) (by omega) ⟨by omega, by omega⟩
                      obtain ⟨k1, hk1⟩ := hst.2
                      have hnew17 : zf (zupd (zupd (zupd (zupd IJ 18 z48') (zid 101 i85_5.toInt.toNat) z79') (zid 102 i85_5.toInt.toNat) z84_5) 17 u85_5) 17 = zf IJ 17 + 1 := by rw [zf_same]; omega
                      refine ih m1 (by omega) _ (cFr_tr hcf hst.1) c0 m1 o0 k1 hk1 (by omega) (by omega) (fun c1 n' o k hk => ?_) rfl
                      obtain ⟨k2, e1, e2, e3⟩ := hall c1 n' o k hk
                      obtain ⟨-, k3, hk3⟩ := cStep (v := z48') (i := i85_5) (x := z79') (y := z84_5) (u := u85_5) e1 hx6 (by omega) (by omega) (by omega) (by omega) ⟨by omega, by omega⟩
                      exact ⟨k3, hk3, by omega, by omega⟩
                  · refine hA_const (k := 3) (zs_iconst (v := 3) em229_69 (by decide +kernel)) (by decide +kernel) (fun z69' hz69' => ?_)
                    refine hA_goto (zs_goto em229_70 (t := 84) (by decide)) ?_
                    refine hA_const (k := 0) (zs_iconst (v := 0) em229_84 (by decide +kernel)) (by decide +kernel) (fun z84_6 hz84_6 => ?_)
                    refine hA_callV (as := [.inl z69', .inl z84_6]) (rest := []) (B' := (0, 0)) (zs_invV (T := TX12) em229_85 zl_260 rfl wd_1605 wd_1607 wd_69 ((congrFun xo_12 310).trans rfl) xm_228) rfl ⟨_, rfl⟩ (Nat.le_of_ble_eq_true rfl) rfl ⟨Nat.zero_le _, Nat.zero_le _⟩ (hpre_of rfl (show hpr_260 d [.inr (.inl (some 75)), .inl z69', .inl z84_6] (zupd IJ 18 z48') from ⟨by show 1 ≤ d; omega, z69', z84_6, rfl, ⟨by rw [zf_ne (by decide)]; omega, by rw [zf_ne (by decide)]; omega⟩⟩)) (fun r85 I85 hp85 => ?_)
                    replace hp85 : hpo_260 _ _ _ _ := hpost_of rfl hp85
                    replace hp85 := hp85 z69' z84_6 rfl
                    obtain ⟨rfl, i85_6, u85_6, hi85_6, hu85_6, rfl⟩ := hp85
                    rw [zf_ne (by decide)] at hi85_6 hu85_6
                    refine hA_goto (zs_goto em229_88 (t := 0) (by decide)) ?_
                    refine hA_fg (L' := [some (.inr (.inl (some 75))), some (.inl a), none]) (by repeat (first | exact trivial | refine And.intro rfl ?_)) ?_
                    obtain ⟨m1, rfl⟩ : ∃ m1, m = m1 + 1 := ⟨m - 1, by omega⟩
                    have hx6 : ¬ zv IJ 104 (m1 : Int) = 6 := by rw [show (m1 : Int) = z16.toInt by omega]; omega
                    have hst := cStep (v := z48') (i := i85_6) (x := z69') (y := z84_6) (u := u85_6) hcok hx6 (by omega) (by omega) (by omega) (by omega) ⟨by omega, by omega⟩
                    obtain ⟨k1, hk1⟩ := hst.2
                    have hnew17 : zf (zupd (zupd (zupd (zupd IJ 18 z48') (zid 101 i85_6.toInt.toNat) z69') (zid 102 i85_6.toInt.toNat) z84_6) 17 u85_6) 17 = zf IJ 17 + 1 := by rw [zf_same]; omega
                    refine ih m1 (by omega) _ (cFr_tr hcf hst.1) c0 m1 o0 k1 hk1 (by omega) (by omega) (fun c1 n' o k hk => ?_) rfl
                    obtain ⟨k2, e1, e2, e3⟩ := hall c1 n' o k hk
                    obtain ⟨-, k3, hk3⟩ := cStep (v := z48') (i := i85_6) (x := z69') (y := z84_6) (u := u85_6) e1 hx6 (by omega) (by omega) (by omega) (by omega) ⟨by omega, by omega⟩
                    exact ⟨k3, hk3, by omega, by omega⟩
                · refine hA_const (k := 2) (zs_iconst (v := 2) em229_59 (by decide +kernel)) (by decide +kernel) (fun z59' hz59' => ?_)
                  refine hA_goto (zs_goto em229_60 (t := 84) (by decide)) ?_
                  refine hA_const (k := 0) (zs_iconst (v := 0) em229_84 (by decide +kernel)) (by decide +kernel) (fun z84_7 hz84_7 => ?_)
                  refine hA_callV (as := [.inl z59', .inl z84_7]) (rest := []) (B' := (0, 0)) (zs_invV (T := TX12) em229_85 zl_260 rfl wd_1605 wd_1607 wd_69 ((congrFun xo_12 310).trans rfl) xm_228) rfl ⟨_, rfl⟩ (Nat.le_of_ble_eq_true rfl) rfl ⟨Nat.zero_le _, Nat.zero_le _⟩ (hpre_of rfl (show hpr_260 d [.inr (.inl (some 75)), .inl z59', .inl z84_7] (zupd IJ 18 z48') from ⟨by show 1 ≤ d; omega, z59', z84_7, rfl, ⟨by rw [zf_ne (by decide)]; omega, by rw [zf_ne (by decide)]; omega⟩⟩)) (fun r85 I85 hp85 => ?_)
                  replace hp85 : hpo_260 _ _ _ _ := hpost_of rfl hp85
                  replace hp85 := hp85 z59' z84_7 rfl
                  obtain ⟨rfl, i85_7, u85_7, hi85_7, hu85_7, rfl⟩ := hp85
                  rw [zf_ne (by decide)] at hi85_7 hu85_7
                  refine hA_goto (zs_goto em229_88 (t := 0) (by decide)) ?_
                  refine hA_fg (L' := [some (.inr (.inl (some 75))), some (.inl a), none]) (by repeat (first | exact trivial | refine And.intro rfl ?_)) ?_
                  obtain ⟨m1, rfl⟩ : ∃ m1, m = m1 + 1 := ⟨m - 1, by omega⟩
                  have hx6 : ¬ zv IJ 104 (m1 : Int) = 6 := by rw [show (m1 : Int) = z16.toInt by omega]; omega
                  have hst := cStep (v := z48') (i := i85_7) (x := z59') (y := z84_7) (u := u85_7) hcok hx6 (by omega) (by omega) (by omega) (by omega) ⟨by omega, by omega⟩
                  obtain ⟨k1, hk1⟩ := hst.2
                  have hnew17 : zf (zupd (zupd (zupd (zupd IJ 18 z48') (zid 101 i85_7.toInt.toNat) z59') (zid 102 i85_7.toInt.toNat) z84_7) 17 u85_7) 17 = zf IJ 17 + 1 := by rw [zf_same]; omega
                  refine ih m1 (by omega) _ (cFr_tr hcf hst.1) c0 m1 o0 k1 hk1 (by omega) (by omega) (fun c1 n' o k hk => ?_) rfl
                  obtain ⟨k2, e1, e2, e3⟩ := hall c1 n' o k hk
                  obtain ⟨-, k3, hk3⟩ := cStep (v := z48') (i := i85_7) (x := z59') (y := z84_7) (u := u85_7) e1 hx6 (by omega) (by omega) (by omega) (by omega) ⟨by omega, by omega⟩
                  exact ⟨k3, hk3, by omega, by omega⟩
              · refine hA_return ⟨rfl, em229_41⟩ ⟨Nat.le_refl _, Nat.le_refl _⟩ ?_
                intro a' he
                cases he
                refine ⟨rfl, hcf, fun c1 n' o k hk => ?_⟩
                obtain ⟨k2, e1, e2, e3⟩ := hall c1 n' o k hk
                obtain ⟨t1, t2, t3⟩ := cTop e1
                have h18' := e1.1
                refine ⟨m, k2, e1, ?_, ?_, e2, e3⟩
                · by_cases hm0 : m = 0
                  · have := t1 hm0; omega
                  · have e16 : z16.toInt = (m : Int) - 1 := by omega
                    rw [e16] at hz17
                    have hw : zv IJ 104 ((m : Int) - 1) = 6 ∨ (zv IJ 104 ((m : Int) - 1) = 8 ∨ zv IJ 104 ((m : Int) - 1) = 9) := by omega
                    rcases hw with hw | hw
                    · have := t2 (by omega) hw; omega
                    · have := t3 (by omega) hw; omega
                · intro ha0
                  by_cases hm0 : m = 0
                  · exact t1 hm0
                  · have e16 : z16.toInt = (m : Int) - 1 := by omega
                    rw [e16] at hz17
                    exact t2 (by omega) (by omega)
  refine hmet (L := [some (.inr (.inl (some 75))), some (.inl a), none]) (by decide) (Nat.le_of_ble_eq_true rfl) hc rfl ?_
  exact loop _ I cFr_rf c0 n0 o k hcok hroom hm (fun c1 n' o' k' hk => ⟨k', by have e1 := hcok.1; have e2 := hk.1; rw [show n0 = n' by omega]; exact ⟨hk, rfl, Nat.le_refl _⟩⟩) rfl
