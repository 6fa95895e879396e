set_option maxRecDepth 10000 in
set_option maxHeartbeats 4000000 in
theorem hM_283 : zOKx 283 := by
  intro d hc as I q h hq
  have h : hpr_283 (d + 1) as I := h
  obtain ⟨hd, rfl, hpre⟩ := h
  cases (show some _ = some q from hq)
  refine hmet (L := [some (.inr (.inl (some 12)))]) (by decide) (Nat.le_of_ble_eq_true rfl) hc rfl ?_
  obtain ⟨hp0, hp1⟩ := hpre
  refine hA_aload (zs_aload_n em13_0) rfl ?_
  refine hA_getf0 (id := 2) (zs_getf (T := TX2) (M := 10) (ci := 2) (j := 3) em13_1 rfl inX2 (by decide) wd_285 ((congrFun xo_3 40).trans rfl)) ⟨_, rfl, rfl⟩ (fun z1 hz1 => ?_)
  refine hA_const (k := 400) (zs_sipush (v := 400) em13_4 (by decide +kernel)) (by decide +kernel) (fun z4 hz4 => ?_)
  refine hA_icmp (zs_icmpgt em13_7 (t := 25) (by decide)) (fun (c7 : z4.toInt < z1.toInt) => ?_) (fun (c7 : ¬ z4.toInt < z1.toInt) => ?_)
  · refine hA_const (k := 0) (zs_iconst (v := 0) em13_25 (by decide +kernel)) (by decide +kernel) (fun z25 hz25 => ?_)
    refine hA_ireturn ⟨rfl, em13_26⟩ ⟨Nat.le_refl _, Nat.le_refl _⟩ ?_
    intro _
    refine ⟨_, rfl, ?_, rfl⟩
    first | (exfalso; omega) | (rw [hz25]; done) | (rw [hz25]; congr 1; omega) | (rw [hz25]; congr 1)
  · refine hA_aload (zs_aload_n em13_10) rfl ?_
    refine hA_getf2 (r := 23) (zs_getf (T := TX2) (M := 10) (ci := 2) (j := 1) em13_11 rfl inX2 (by decide) wd_283 ((congrFun xo_3 21).trans rfl)) ⟨_, rfl, rfl⟩ ?_
    refine hA_getf2 (r := 24) (zs_getf (T := TX7) (M := 3) (ci := 7) (j := 0) em13_14 rfl inX7 (by decide) wd_269 ((congrFun xo_3 80).trans rfl)) ⟨_, rfl, rfl⟩ ?_
    refine hA_aload (zs_aload_n em13_17) rfl ?_
    refine hA_getf0 (id := 2) (zs_getf (T := TX2) (M := 10) (ci := 2) (j := 3) em13_18 rfl inX2 (by decide) wd_285 ((congrFun xo_3 40).trans rfl)) ⟨_, rfl, rfl⟩ (fun z18 hz18 => ?_)
    refine hA_iald (kd := 24) (len := 401) (zs_iald em13_21) ⟨rfl, rfl, rfl⟩ (by omega) (by show _ < ((401 : Nat) : Int); omega) (fun z21 hz21 => ?_)
    refine hA_goto (zs_goto em13_22 (t := 26) (by decide)) ?_
    refine hA_ireturn ⟨rfl, em13_26⟩ ⟨Nat.le_refl _, Nat.le_refl _⟩ ?_
    intro _
    refine ⟨_, rfl, ?_, rfl⟩
    first | (exfalso; omega) | (rw [hz21]; done) | (rw [hz21]; congr 1; omega) | (rw [hz21]; congr 1)
set_option maxRecDepth 10000 in
set_option maxHeartbeats 4000000 in
theorem hM_284 : zOKx 284 := by
  intro d hc as I q h hq
  have h : hpr_284 (d + 1) as I := h
  obtain ⟨hd, a, rfl, hpre⟩ := h
  cases (show some _ = some q from hq)
  refine hmet (L := [some (.inr (.inl (some 12))), some (.inl a)]) (by decide) (Nat.le_of_ble_eq_true rfl) hc rfl ?_
  obtain ⟨hp0, hp1, hInv⟩ := hpre
  refine hA_aload (zs_aload_n em9_0) rfl ?_
  refine hA_callV (as := []) (rest := []) (B' := (0, 0)) (zs_invV (T := TX2) em9_1 zl_283 rfl wd_756 wd_758 wd_2 ((congrFun xo_3 53).trans rfl) xm_13) rfl ⟨_, rfl⟩ (Nat.le_of_ble_eq_true rfl) rfl ⟨Nat.zero_le _, Nat.zero_le _⟩ (hpre_of rfl (show hpr_283 d [.inr (.inl (some 12))] I from ⟨by show 1 ≤ d; omega, rfl, ⟨by omega, by omega⟩⟩)) (fun r1 I1 hp1 => ?_)
  replace hp1 : hpo_283 _ _ _ _ := hpost_of rfl hp1
  replace hp1 := hp1 rfl
  obtain ⟨z1, rfl, hz1, rfl⟩ := hp1
  refine hA_iload (zs_iload_n em9_4) rfl ?_
  refine hA_icmp (zs_icmpeq em9_5 (t := 14) (by decide)) (fun (c5 : z1.toInt = a.toInt) => ?_) (fun (c5 : ¬ z1.toInt = a.toInt) => ?_)
  · refine hA_aload (zs_aload_n em9_14) rfl ?_
    refine hA_getf0 (id := 2) (zs_getf (T := TX2) (M := 10) (ci := 2) (j := 3) em9_15 rfl inX2 (by decide) wd_285 ((congrFun xo_3 40).trans rfl)) ⟨_, rfl, rfl⟩ (fun z15 hz15 => ?_)
    refine hA_const (k := 400) (zs_sipush (v := 400) em9_18 (by decide +kernel)) (by decide +kernel) (fun z18 hz18 => ?_)
    refine hA_icmp (zs_icmplt em9_21 (t := 30) (by decide)) (fun (c21 : z15.toInt < z18.toInt) => ?_) (fun (c21 : ¬ z15.toInt < z18.toInt) => ?_)
    · refine hA_aload (zs_aload_n em9_30) rfl ?_
      refine hA_dup (zs_dup em9_31) rfl ?_
      refine hA_getf0 (id := 2) (zs_getf (T := TX2) (M := 10) (ci := 2) (j := 3) em9_32 rfl inX2 (by decide) wd_285 ((congrFun xo_3 40).trans rfl)) ⟨_, rfl, rfl⟩ (fun z32 hz32 => ?_)
      refine hA_const (k := 1) (zs_iconst (v := 1) em9_35 (by decide +kernel)) (by decide +kernel) (fun z35 hz35 => ?_)
      refine hA_add (zs_iadd em9_36) (by omega) (by omega) (fun z36 hz36 => ?_)
      refine hA_puti0 (id := 2) (zs_puti zInj0 (T := TX2) (M := 10) (ty := tyX2) (ci := 2) (j := 3) (kd := 0) em9_37 rfl inX2 tyX2_ok nmX2 (by decide) wd_285 (Or.inl ⟨rfl, rfl⟩) rfl ((congrFun xo_3 40).trans rfl)) ⟨_, rfl, rfl⟩ (fun h => by cases h) ?_
      refine hA_const (k := 1) (zs_iconst (v := 1) em9_40 (by decide +kernel)) (by decide +kernel) (fun z40 hz40 => ?_)
      refine hA_zreturn ⟨rfl, em9_41⟩ ⟨Nat.le_refl _, Nat.le_refl _⟩ ⟨by omega, by omega⟩ ?_
      intro a' he
      cases he
      exact ⟨_, rfl, Or.inr ⟨by omega, by omega, by omega, z36, by omega, rfl⟩⟩
    · refine hA_aload (zs_aload_n em9_24) rfl ?_
      refine hA_const (k := 2) (zs_iconst (v := 2) em9_25 (by decide +kernel)) (by decide +kernel) (fun z25 hz25 => ?_)
      refine hA_callV (as := [.inl z25]) (rest := []) (B' := (0, 0)) (zs_invV (T := TX2) em9_26 zl_10 rfl wd_764 wd_766 wd_4 ((congrFun xo_3 70).trans rfl) xm_10) rfl ⟨_, rfl⟩ (Nat.le_of_ble_eq_true rfl) rfl ⟨Nat.zero_le _, Nat.zero_le _⟩ (zpre_of zh_10 ⟨(by show 1 ≤ d; omega), ⟨_, _, rfl, rfl, ⟨_, _, rfl, ⟨_, rfl, show (1 : Int) ≤ z25.toInt by omega, show z25.toInt ≤ (6 : Int) by omega⟩, rfl⟩⟩, (hF_cons (lo := 0) (hi := 400) ⟨by omega, by omega⟩ hF_nil), fun _ => hInv⟩) (fun r26 I26 hp26 => ?_)
      replace hp26 := zpost_of zh_10 hp26
      obtain ⟨z26, rfl, hz26l, hz26h, rfl, hInv26⟩ := zq_10 hp26
      refine hA_zreturn ⟨rfl, em9_29⟩ ⟨Nat.le_refl _, Nat.le_refl _⟩ ⟨by omega, by omega⟩ ?_
      intro a' he
      cases he
      exact ⟨_, rfl, Or.inl ⟨by omega, rfl⟩⟩
  · refine hA_aload (zs_aload_n em9_8) rfl ?_
    refine hA_const (k := 1) (zs_iconst (v := 1) em9_9 (by decide +kernel)) (by decide +kernel) (fun z9 hz9 => ?_)
    refine hA_callV (as := [.inl z9]) (rest := []) (B' := (0, 0)) (zs_invV (T := TX2) em9_10 zl_10 rfl wd_764 wd_766 wd_4 ((congrFun xo_3 70).trans rfl) xm_10) rfl ⟨_, rfl⟩ (Nat.le_of_ble_eq_true rfl) rfl ⟨Nat.zero_le _, Nat.zero_le _⟩ (zpre_of zh_10 ⟨(by show 1 ≤ d; omega), ⟨_, _, rfl, rfl, ⟨_, _, rfl, ⟨_, rfl, show (1 : Int) ≤ z9.toInt by omega, show z9.toInt ≤ (6 : Int) by omega⟩, rfl⟩⟩, (hF_cons (lo := 0) (hi := 400) ⟨by omega, by omega⟩ hF_nil), fun _ => hInv⟩) (fun r10 I10 hp10 => ?_)
    replace hp10 := zpost_of zh_10 hp10
    obtain ⟨z10, rfl, hz10l, hz10h, rfl, hInv10⟩ := zq_10 hp10
    refine hA_zreturn ⟨rfl, em9_13⟩ ⟨Nat.le_refl _, Nat.le_refl _⟩ ⟨by omega, by omega⟩ ?_
    intro a' he
    cases he
    exact ⟨_, rfl, Or.inl ⟨by omega, rfl⟩⟩
theorem em237_0 : decode prog_4_method_13_code 0 = .ok (.aload_n 0, 1) := by decide +kernel
theorem em237_1 : decode prog_4_method_13_code 1 = .ok (.getfield 29, 3) := by decide +kernel
theorem em237_4 : decode prog_4_method_13_code 4 = .ok (.aload_n 0, 1) := by decide +kernel
theorem em237_5 : decode prog_4_method_13_code 5 = .ok (.getfield 21, 3) := by decide +kernel
theorem em237_8 : decode prog_4_method_13_code 8 = .ok (.getfield 83, 3) := by decide +kernel
theorem em237_11 : decode prog_4_method_13_code 11 = .ok (.iload_n 1, 1) := by decide +kernel
theorem em237_12 : decode prog_4_method_13_code 12 = .ok (.iaload, 1) := by decide +kernel
theorem em237_13 : decode prog_4_method_13_code 13 = .ok (.iload_n 2, 1) := by decide +kernel
theorem em237_14 : decode prog_4_method_13_code 14 = .ok (.iadd, 1) := by decide +kernel
theorem em237_15 : decode prog_4_method_13_code 15 = .ok (.baload, 1) := by decide +kernel
theorem em237_16 : decode prog_4_method_13_code 16 = .ok (.bipush 97, 2) := by decide +kernel
theorem em237_18 : decode prog_4_method_13_code 18 = .ok (.isub, 1) := by decide +kernel
theorem em237_19 : decode prog_4_method_13_code 19 = .ok (.ireturn, 1) := by decide +kernel
set_option maxRecDepth 10000 in
set_option maxHeartbeats 4000000 in
theorem hM_269 : zOKx 269 := by
  intro d hc as I q h hq
  have h : hpr_269 (d + 1) as I := h
  obtain ⟨hd, a, b, rfl, hpre⟩ := h
  cases (show some _ = some q from hq)
  refine hmet (L := [some (.inr (.inl (some 12))), some (.inl a), some (.inl b)]) (by decide) (Nat.le_of_ble_eq_true rfl) hc rfl ?_
  obtain ⟨hp0, hp1, hp2, hp3, hInv⟩ := hpre
  have ht := tokP hInv hp0 hp1
  refine hA_aload (zs_aload_n em237_0) rfl ?_
  refine hA_getf2 (r := 1) (zs_getf (T := TX2) (M := 10) (ci := 2) (j := 2) em237_1 rfl inX2 (by decide) wd_284 ((congrFun xo_3 29).trans rfl)) ⟨_, rfl, rfl⟩ ?_
  refine hA_aload (zs_aload_n em237_4) rfl ?_
  refine hA_getf2 (r := 23) (zs_getf (T := TX2) (M := 10) (ci := 2) (j := 1) em237_5 rfl inX2 (by decide) wd_283 ((congrFun xo_3 21).trans rfl)) ⟨_, rfl, rfl⟩ ?_
  refine hA_getf2 (r := 25) (zs_getf (T := TX7) (M := 3) (ci := 7) (j := 1) em237_8 rfl inX7 (by decide) wd_271 ((congrFun xo_3 83).trans rfl)) ⟨_, rfl, rfl⟩ ?_
  refine hA_iload (zs_iload_n em237_11) rfl ?_
  refine hA_iald (kd := 25) (len := 401) (zs_iald em237_12) ⟨rfl, rfl, rfl⟩ (by omega) (by show _ < ((401 : Nat) : Int); omega) (fun z12 hz12 => ?_)
  refine hA_iload (zs_iload_n em237_13) rfl ?_
  refine hA_add (zs_iadd em237_14) (by omega) (by omega) (fun z14 hz14 => ?_)
  refine hA_baldH (kd := 1) (len := 2000) (zs_bald em237_15) ⟨rfl, rfl, rfl, Or.inl rfl⟩ (by omega) (by show _ < ((2000 : Nat) : Int); omega) (fun z15 hz15 => ?_)
  have hbz15 : ((-128) : Int) ≤ z15.toInt ∧ z15.toInt ≤ 127 := eall rfl hz15
  refine hA_const (k := 97) (zs_bipush (v := 97) em237_16 (by decide +kernel)) (by decide +kernel) (fun z16 hz16 => ?_)
  refine hA_sub (zs_isub em237_18) (by omega) (by omega) (fun z18 hz18 => ?_)
  refine hA_ireturn ⟨rfl, em237_19⟩ ⟨Nat.le_refl _, Nat.le_refl _⟩ ?_
  intro a' b' he
  cases he
  exact ⟨_, rfl, by omega, by omega, rfl⟩
theorem em238_0 : decode prog_4_method_12_code 0 = .ok (.iconst 0, 1) := by decide +kernel
theorem em238_1 : decode prog_4_method_12_code 1 = .ok (.istore_n 2, 1) := by decide +kernel
theorem em238_2 : decode prog_4_method_12_code 2 = .ok (.iload_n 2, 1) := by decide +kernel
theorem em238_3 : decode prog_4_method_12_code 3 = .ok (.aload_n 0, 1) := by decide +kernel
theorem em238_4 : decode prog_4_method_12_code 4 = .ok (.getfield 21, 3) := by decide +kernel
theorem em238_7 : decode prog_4_method_12_code 7 = .ok (.getfield 102, 3) := by decide +kernel
theorem em238_10 : decode prog_4_method_12_code 10 = .ok (.iload_n 1, 1) := by decide +kernel
theorem em238_11 : decode prog_4_method_12_code 11 = .ok (.iaload, 1) := by decide +kernel
theorem em238_12 : decode prog_4_method_12_code 12 = .ok (.if_icmp .ge 22, 3) := by decide +kernel
theorem em238_15 : decode prog_4_method_12_code 15 = .ok (.aload_n 0, 1) := by decide +kernel
theorem em238_16 : decode prog_4_method_12_code 16 = .ok (.iload_n 1, 1) := by decide +kernel
theorem em238_17 : decode prog_4_method_12_code 17 = .ok (.iload_n 2, 1) := by decide +kernel
theorem em238_18 : decode prog_4_method_12_code 18 = .ok (.invokevirtual 105, 3) := by decide +kernel
theorem em238_21 : decode prog_4_method_12_code 21 = .ok (.bipush 8, 2) := by decide +kernel
theorem em238_23 : decode prog_4_method_12_code 23 = .ok (.if_icmp .lt 5, 3) := by decide +kernel
theorem em238_26 : decode prog_4_method_12_code 26 = .ok (.iconst 0, 1) := by decide +kernel
theorem em238_27 : decode prog_4_method_12_code 27 = .ok (.ireturn, 1) := by decide +kernel
theorem em238_28 : decode prog_4_method_12_code 28 = .ok (.iinc 2 1, 3) := by decide +kernel
theorem em238_31 : decode prog_4_method_12_code 31 = .ok (.goto (-29), 3) := by decide +kernel
theorem em238_34 : decode prog_4_method_12_code 34 = .ok (.iconst 1, 1) := by decide +kernel
theorem em238_35 : decode prog_4_method_12_code 35 = .ok (.ireturn, 1) := by decide +kernel
set_option maxRecDepth 10000 in
set_option maxHeartbeats 4000000 in
theorem hM_270 : zOKx 270 := by
  intro d hc as I q h hq
  have h : hpr_270 (d + 1) as I := h
  obtain ⟨hd, a, rfl, hpre⟩ := h
  cases (show some _ = some q from hq)
  obtain ⟨hp0, hp1, hInv⟩ := hpre
  have ht := tokP hInv hp0 hp1
  have loop : ∀ (n : Nat) (i : Int32) (hi : 0 ≤ i.toInt), (2001 - i.toInt).toNat = n → zAt zG0 PZ zbd zpre zpost (d, (zbd 270).1, (zbd 270).2) prog_4_method_12_code "CapitalCase$Parser" (zRet prog_4_method_12_code (some .boolean) (zbd 270) (hpost 270 [.inr (.inl (some 12)), .inl a] I)) 2 [some (.inr (.inl (some 12))), some (.inl a), some (.inl i)] [] I (0, 0) := by
    intro n
    induction n using Nat.strongRecOn with
    | ind n ih =>
      intro i hi hn
      refine hA_iload (zs_iload_n em238_2) rfl ?_
      refine hA_aload (zs_aload_n em238_3) rfl ?_
      refine hA_getf2 (r := 23) (zs_getf (T := TX2) (M := 10) (ci := 2) (j := 1) em238_4 rfl inX2 (by decide) wd_283 ((congrFun xo_3 21).trans rfl)) ⟨_, rfl, rfl⟩ ?_
      refine hA_getf2 (r := 26) (zs_getf (T := TX7) (M := 3) (ci := 7) (j := 2) em238_7 rfl inX7 (by decide) wd_273 ((congrFun xo_3 102).trans rfl)) ⟨_, rfl, rfl⟩ ?_
      refine hA_iload (zs_iload_n em238_10) rfl ?_
      refine hA_iald (kd := 26) (len := 401) (zs_iald em238_11) ⟨rfl, rfl, rfl⟩ (by omega) (by show _ < ((401 : Nat) : Int); omega) (fun z11 hz11 => ?_)
      refine hA_icmp (zs_icmpge em238_12 (t := 34) (by decide)) (fun (c12 : z11.toInt ≤ i.toInt) => ?_) (fun (c12 : ¬ z11.toInt ≤ i.toInt) => ?_)
      · refine hA_const (k := 1) (zs_iconst (v := 1) em238_34 (by decide +kernel)) (by decide +kernel) (fun z34 hz34 => ?_)
        refine hA_zreturn ⟨rfl, em238_35⟩ ⟨Nat.le_refl _, Nat.le_refl _⟩ ⟨by omega, by omega⟩ ?_
        intro a' he
        cases he
        exact ⟨_, rfl, by omega, by omega, rfl⟩
      · refine hA_aload (zs_aload_n em238_15) rfl ?_
        refine hA_iload (zs_iload_n em238_16) rfl ?_
        refine hA_iload (zs_iload_n em238_17) rfl ?_
        refine hA_callV (as := [.inl a, .inl i]) (rest := []) (B' := (0, 0)) (zs_invV (T := TX2) em238_18 zl_269 rfl wd_788 wd_790 wd_10 ((congrFun xo_3 105).trans rfl) xm_237) rfl ⟨_, rfl⟩ (Nat.le_of_ble_eq_true rfl) rfl ⟨Nat.zero_le _, Nat.zero_le _⟩ (hpre_of rfl (show hpr_269 d [.inr (.inl (some 12)), .inl a, .inl i] I from ⟨by show 1 ≤ d; omega, a, i, rfl, ⟨by omega, by omega, by omega, by omega, hInv⟩⟩)) (fun r18 I18 hp18 => ?_)
        replace hp18 : hpo_269 _ _ _ _ := hpost_of rfl hp18
        replace hp18 := hp18 a i rfl
        obtain ⟨z18, rfl, hz18l, hz18h, rfl⟩ := hp18
        refine hA_const (k := 8) (zs_bipush (v := 8) em238_21 (by decide +kernel)) (by decide +kernel) (fun z21 hz21 => ?_)
        refine hA_icmp (zs_icmplt em238_23 (t := 28) (by decide)) (fun (c23 : z18.toInt < z21.toInt) => ?_) (fun (c23 : ¬ z18.toInt < z21.toInt) => ?_)
        · refine hA_iinc (c := 1) (zs_iinc (k := 1) em238_28 (by decide +kernel)) (by decide +kernel) rfl ⟨Nat.le_of_ble_eq_true rfl, rfl⟩ (by omega) (by omega) (fun z28 hz28 => ?_)
          show zAt _ _ _ _ _ _ _ _ _ _ [some (.inr (.inl (some 12))), some (.inl a), some (.inl z28)] _ _ _
          refine hA_goto (zs_goto em238_31 (t := 2) (by decide)) ?_
          exact ih _ (by omega) z28 (by omega) rfl
        · refine hA_const (k := 0) (zs_iconst (v := 0) em238_26 (by decide +kernel)) (by decide +kernel) (fun z26 hz26 => ?_)
          refine hA_zreturn ⟨rfl, em238_27⟩ ⟨Nat.le_refl _, Nat.le_refl _⟩ ⟨by omega, by omega⟩ ?_
          intro a' he
          cases he
          exact ⟨_, rfl, by omega, by omega, rfl⟩
  refine hmet (L := [some (.inr (.inl (some 12))), some (.inl a), none]) (by decide) (Nat.le_of_ble_eq_true rfl) hc rfl ?_
  refine hA_const (k := 0) (zs_iconst (v := 0) em238_0 (by decide +kernel)) (by decide +kernel) (fun z0 hz0 => ?_)
  refine hA_istore (L' := [some (.inr (.inl (some 12))), some (.inl a), some (.inl z0)]) (zs_istore_n em238_1) ⟨Nat.le_of_ble_eq_true rfl, rfl⟩ rfl ?_
  exact loop _ z0 (by omega) rfl
theorem em12_0 : decode prog_4_method_11_code 0 = .ok (.aload_n 0, 1) := by decide +kernel
theorem em12_1 : decode prog_4_method_11_code 1 = .ok (.getfield 21, 3) := by decide +kernel
theorem em12_4 : decode prog_4_method_11_code 4 = .ok (.getfield 102, 3) := by decide +kernel
theorem em12_7 : decode prog_4_method_11_code 7 = .ok (.iload_n 1, 1) := by decide +kernel
theorem em12_8 : decode prog_4_method_11_code 8 = .ok (.iaload, 1) := by decide +kernel
theorem em12_9 : decode prog_4_method_11_code 9 = .ok (.aload_n 0, 1) := by decide +kernel
theorem em12_10 : decode prog_4_method_11_code 10 = .ok (.getfield 21, 3) := by decide +kernel
theorem em12_13 : decode prog_4_method_11_code 13 = .ok (.getfield 102, 3) := by decide +kernel
theorem em12_16 : decode prog_4_method_11_code 16 = .ok (.iload_n 2, 1) := by decide +kernel
theorem em12_17 : decode prog_4_method_11_code 17 = .ok (.iaload, 1) := by decide +kernel
theorem em12_18 : decode prog_4_method_11_code 18 = .ok (.if_icmp .eq 5, 3) := by decide +kernel
theorem em12_21 : decode prog_4_method_11_code 21 = .ok (.iconst 0, 1) := by decide +kernel
theorem em12_22 : decode prog_4_method_11_code 22 = .ok (.ireturn, 1) := by decide +kernel
theorem em12_23 : decode prog_4_method_11_code 23 = .ok (.iconst 0, 1) := by decide +kernel
theorem em12_24 : decode prog_4_method_11_code 24 = .ok (.istore_n 3, 1) := by decide +kernel
theorem em12_25 : decode prog_4_method_11_code 25 = .ok (.iload_n 3, 1) := by decide +kernel
theorem em12_26 : decode prog_4_method_11_code 26 = .ok (.aload_n 0, 1) := by decide +kernel
theorem em12_27 : decode prog_4_method_11_code 27 = .ok (.getfield 21, 3) := by decide +kernel
theorem em12_30 : decode prog_4_method_11_code 30 = .ok (.getfield 102, 3) := by decide +kernel
theorem em12_33 : decode prog_4_method_11_code 33 = .ok (.iload_n 1, 1) := by decide +kernel
theorem em12_34 : decode prog_4_method_11_code 34 = .ok (.iaload, 1) := by decide +kernel
theorem em12_35 : decode prog_4_method_11_code 35 = .ok (.if_icmp .ge 46, 3) := by decide +kernel
theorem em12_38 : decode prog_4_method_11_code 38 = .ok (.aload_n 0, 1) := by decide +kernel
theorem em12_39 : decode prog_4_method_11_code 39 = .ok (.getfield 29, 3) := by decide +kernel
theorem em12_42 : decode prog_4_method_11_code 42 = .ok (.aload_n 0, 1) := by decide +kernel
theorem em12_43 : decode prog_4_method_11_code 43 = .ok (.getfield 21, 3) := by decide +kernel
theorem em12_46 : decode prog_4_method_11_code 46 = .ok (.getfield 83, 3) := by decide +kernel
theorem em12_49 : decode prog_4_method_11_code 49 = .ok (.iload_n 1, 1) := by decide +kernel
theorem em12_50 : decode prog_4_method_11_code 50 = .ok (.iaload, 1) := by decide +kernel
theorem em12_51 : decode prog_4_method_11_code 51 = .ok (.iload_n 3, 1) := by decide +kernel
theorem em12_52 : decode prog_4_method_11_code 52 = .ok (.iadd, 1) := by decide +kernel
theorem em12_53 : decode prog_4_method_11_code 53 = .ok (.baload, 1) := by decide +kernel
theorem em12_54 : decode prog_4_method_11_code 54 = .ok (.aload_n 0, 1) := by decide +kernel
theorem em12_55 : decode prog_4_method_11_code 55 = .ok (.getfield 29, 3) := by decide +kernel
theorem em12_58 : decode prog_4_method_11_code 58 = .ok (.aload_n 0, 1) := by decide +kernel
theorem em12_59 : decode prog_4_method_11_code 59 = .ok (.getfield 21, 3) := by decide +kernel
theorem em12_62 : decode prog_4_method_11_code 62 = .ok (.getfield 83, 3) := by decide +kernel
theorem em12_65 : decode prog_4_method_11_code 65 = .ok (.iload_n 2, 1) := by decide +kernel
theorem em12_66 : decode prog_4_method_11_code 66 = .ok (.iaload, 1) := by decide +kernel
theorem em12_67 : decode prog_4_method_11_code 67 = .ok (.iload_n 3, 1) := by decide +kernel
theorem em12_68 : decode prog_4_method_11_code 68 = .ok (.iadd, 1) := by decide +kernel
theorem em12_69 : decode prog_4_method_11_code 69 = .ok (.baload, 1) := by decide +kernel
theorem em12_70 : decode prog_4_method_11_code 70 = .ok (.if_icmp .eq 5, 3) := by decide +kernel
theorem em12_73 : decode prog_4_method_11_code 73 = .ok (.iconst 0, 1) := by decide +kernel
theorem em12_74 : decode prog_4_method_11_code 74 = .ok (.ireturn, 1) := by decide +kernel
theorem em12_75 : decode prog_4_method_11_code 75 = .ok (.iinc 3 1, 3) := by decide +kernel
theorem em12_78 : decode prog_4_method_11_code 78 = .ok (.goto (-53), 3) := by decide +kernel
theorem em12_81 : decode prog_4_method_11_code 81 = .ok (.iconst 1, 1) := by decide +kernel
theorem em12_82 : decode prog_4_method_11_code 82 = .ok (.ireturn, 1) := by decide +kernel
set_option maxRecDepth 10000 in
set_option maxHeartbeats 4000000 in
theorem hM_12 : zOKh 12 zc_12 := by
  intro d hc as I q h hq
  obtain ⟨hd, ⟨_, _, rfl, rfl, ⟨_, _, rfl, ⟨x1, rfl, hx1, hx1b⟩, ⟨_, _, rfl, ⟨x2, rfl, hx2, hx2b⟩, rfl⟩⟩⟩, hF, hI⟩ := h
  have hd : 6 ≤ d + 1 := hd
  have hx1 : (0 : Int) ≤ x1.toInt := hx1
  have hx1b : x1.toInt ≤ (400 : Int) := hx1b
  have hx2 : (0 : Int) ≤ x2.toInt := hx2
  have hx2b : x2.toInt ≤ (400 : Int) := hx2b
  have hInv : zInv I := hI rfl
  cases (show some _ = some q from hq)
  have ht1 := tokP hInv hx1 hx1b
  have ht2 := tokP hInv hx2 hx2b
  have loop : ∀ (n : Nat) (i : Int32) (hi : 0 ≤ i.toInt) (hsz : zv I 26 x1.toInt = zv I 26 x2.toInt), (2001 - i.toInt).toNat = n → zAt zG0 PZ zbd zpre zpost (d, (zbd 12).1, (zbd 12).2) prog_4_method_11_code "CapitalCase$Parser" (zRet prog_4_method_11_code (some .boolean) (zbd 12) (fun r I' => aPost zInv zc_12 [.inr (.inl (some 12)), .inl x1, .inl x2] I r I')) 25 [some (.inr (.inl (some 12))), some (.inl x1), some (.inl x2), some (.inl i)] [] I (0, 0) := by
    intro n
    induction n using Nat.strongRecOn with
    | ind n ih =>
      intro i hi hsz hn
      refine hA_iload (zs_iload_n em12_25) rfl ?_
      refine hA_aload (zs_aload_n em12_26) rfl ?_
      refine hA_getf2 (r := 23) (zs_getf (T := TX2) (M := 10) (ci := 2) (j := 1) em12_27 rfl inX2 (by decide) wd_283 ((congrFun xo_3 21).trans rfl)) ⟨_, rfl, rfl⟩ ?_
      refine hA_getf2 (r := 26) (zs_getf (T := TX7) (M := 3) (ci := 7) (j := 2) em12_30 rfl inX7 (by decide) wd_273 ((congrFun xo_3 102).trans rfl)) ⟨_, rfl, rfl⟩ ?_
      refine hA_iload (zs_iload_n em12_33) rfl ?_
      refine hA_iald (kd := 26) (len := 401) (zs_iald em12_34) ⟨rfl, rfl, rfl⟩ (by omega) (by show _ < ((401 : Nat) : Int); omega) (fun z34 hz34 => ?_)
      refine hA_icmp (zs_icmpge em12_35 (t := 81) (by decide)) (fun (c35 : z34.toInt ≤ i.toInt) => ?_) (fun (c35 : ¬ z34.toInt ≤ i.toInt) => ?_)
      · refine hA_const (k := 1) (zs_iconst (v := 1) em12_81 (by decide +kernel)) (by decide +kernel) (fun z81 hz81 => ?_)
        refine hA_zreturn ⟨rfl, em12_82⟩ ⟨Nat.le_refl _, Nat.le_refl _⟩ ⟨by omega, by omega⟩ ?_
        exact ⟨⟨_, List.mem_cons_self, ⟨_, rfl, show (0 : Int) ≤ _ by omega, show _ ≤ (1 : Int) by omega⟩, hCh_nil, (fun id hl hn => rfl), (fun _ h => absurd h List.not_mem_nil)⟩, (fun _ => hInv), (fun _ id hid => rfl)⟩
      · refine hA_aload (zs_aload_n em12_38) rfl ?_
        refine hA_getf2 (r := 1) (zs_getf (T := TX2) (M := 10) (ci := 2) (j := 2) em12_39 rfl inX2 (by decide) wd_284 ((congrFun xo_3 29).trans rfl)) ⟨_, rfl, rfl⟩ ?_
        refine hA_aload (zs_aload_n em12_42) rfl ?_
        refine hA_getf2 (r := 23) (zs_getf (T := TX2) (M := 10) (ci := 2) (j := 1) em12_43 rfl inX2 (by decide) wd_283 ((congrFun xo_3 21).trans rfl)) ⟨_, rfl, rfl⟩ ?_
        refine hA_getf2 (r := 25) (zs_getf (T := TX7) (M := 3) (ci := 7) (j := 1) em12_46 rfl inX7 (by decide) wd_271 ((congrFun xo_3 83).trans rfl)) ⟨_, rfl, rfl⟩ ?_
        refine hA_iload (zs_iload_n em12_49) rfl ?_
        refine hA_iald (kd := 25) (len := 401) (zs_iald em12_50) ⟨rfl, rfl, rfl⟩ (by omega) (by show _ < ((401 : Nat) : Int); omega) (fun z50 hz50 => ?_)
        refine hA_iload (zs_iload_n em12_51) rfl ?_
        refine hA_add (zs_iadd em12_52) (by omega) (by omega) (fun z52 hz52 => ?_)
        refine hA_baldH (kd := 1) (len := 2000) (zs_bald em12_53) ⟨rfl, rfl, rfl, Or.inl rfl⟩ (by omega) (by show _ < ((2000 : Nat) : Int); omega) (fun z53 hz53 => ?_)
        have hbz53 : ((-128) : Int) ≤ z53.toInt ∧ z53.toInt ≤ 127 := eall rfl hz53
        refine hA_aload (zs_aload_n em12_54) rfl ?_
        refine hA_getf2 (r := 1) (zs_getf (T := TX2) (M := 10) (ci := 2) (j := 2) em12_55 rfl inX2 (by decide) wd_284 ((congrFun xo_3 29).trans rfl)) ⟨_, rfl, rfl⟩ ?_
        refine hA_aload (zs_aload_n em12_58) rfl ?_
        refine hA_getf2 (r := 23) (zs_getf (T := TX2) (M := 10) (ci := 2) (j := 1) em12_59 rfl inX2 (by decide) wd_283 ((congrFun xo_3 21).trans rfl)) ⟨_, rfl, rfl⟩ ?_
        refine hA_getf2 (r := 25) (zs_getf (T := TX7) (M := 3) (ci := 7) (j := 1) em12_62 rfl inX7 (by decide) wd_271 ((congrFun xo_3 83).trans rfl)) ⟨_, rfl, rfl⟩ ?_
        refine hA_iload (zs_iload_n em12_65) rfl ?_
        refine hA_iald (kd := 25) (len := 401) (zs_iald em12_66) ⟨rfl, rfl, rfl⟩ (by omega) (by show _ < ((401 : Nat) : Int); omega) (fun z66 hz66 => ?_)
        refine hA_iload (zs_iload_n em12_67) rfl ?_
        refine hA_add (zs_iadd em12_68) (by omega) (by omega) (fun z68 hz68 => ?_)
        refine hA_baldH (kd := 1) (len := 2000) (zs_bald em12_69) ⟨rfl, rfl, rfl, Or.inl rfl⟩ (by omega) (by show _ < ((2000 : Nat) : Int); omega) (fun z69 hz69 => ?_)
        have hbz69 : ((-128) : Int) ≤ z69.toInt ∧ z69.toInt ≤ 127 := eall rfl hz69
        refine hA_icmp (zs_icmpeq em12_70 (t := 75) (by decide)) (fun (c70 : z53.toInt = z69.toInt) => ?_) (fun (c70 : ¬ z53.toInt = z69.toInt) => ?_)
        · refine hA_iinc (c := 1) (zs_iinc (k := 1) em12_75 (by decide +kernel)) (by decide +kernel) rfl ⟨Nat.le_of_ble_eq_true rfl, rfl⟩ (by omega) (by omega) (fun z75 hz75 => ?_)
          show zAt _ _ _ _ _ _ _ _ _ _ [some (.inr (.inl (some 12))), some (.inl x1), some (.inl x2), some (.inl z75)] _ _ _
          refine hA_goto (zs_goto em12_78 (t := 25) (by decide)) ?_
          exact ih _ (by omega) z75 (by omega) hsz rfl
        · refine hA_const (k := 0) (zs_iconst (v := 0) em12_73 (by decide +kernel)) (by decide +kernel) (fun z73 hz73 => ?_)
          refine hA_zreturn ⟨rfl, em12_74⟩ ⟨Nat.le_refl _, Nat.le_refl _⟩ ⟨by omega, by omega⟩ ?_
          exact ⟨⟨_, List.mem_cons_self, ⟨_, rfl, show (0 : Int) ≤ _ by omega, show _ ≤ (1 : Int) by omega⟩, hCh_nil, (fun id hl hn => rfl), (fun _ h => absurd h List.not_mem_nil)⟩, (fun _ => hInv), (fun _ id hid => rfl)⟩
  refine hmet (L := [some (.inr (.inl (some 12))), some (.inl x1), some (.inl x2), none]) (by decide) (Nat.le_of_ble_eq_true rfl) hc rfl ?_
  refine hA_aload (zs_aload_n em12_0) rfl ?_
  refine hA_getf2 (r := 23) (zs_getf (T := TX2) (M := 10) (ci := 2) (j := 1) em12_1 rfl inX2 (by decide) wd_283 ((congrFun xo_3 21).trans rfl)) ⟨_, rfl, rfl⟩ ?_
  refine hA_getf2 (r := 26) (zs_getf (T := TX7) (M := 3) (ci := 7) (j := 2) em12_4 rfl inX7 (by decide) wd_273 ((congrFun xo_3 102).trans rfl)) ⟨_, rfl, rfl⟩ ?_
  refine hA_iload (zs_iload_n em12_7) rfl ?_
  refine hA_iald (kd := 26) (len := 401) (zs_iald em12_8) ⟨rfl, rfl, rfl⟩ (by omega) (by show _ < ((401 : Nat) : Int); omega) (fun z8 hz8 => ?_)
  refine hA_aload (zs_aload_n em12_9) rfl ?_
  refine hA_getf2 (r := 23) (zs_getf (T := TX2) (M := 10) (ci := 2) (j := 1) em12_10 rfl inX2 (by decide) wd_283 ((congrFun xo_3 21).trans rfl)) ⟨_, rfl, rfl⟩ ?_
  refine hA_getf2 (r := 26) (zs_getf (T := TX7) (M := 3) (ci := 7) (j := 2) em12_13 rfl inX7 (by decide) wd_273 ((congrFun xo_3 102).trans rfl)) ⟨_, rfl, rfl⟩ ?_
  refine hA_iload (zs_iload_n em12_16) rfl ?_
  refine hA_iald (kd := 26) (len := 401) (zs_iald em12_17) ⟨rfl, rfl, rfl⟩ (by omega) (by show _ < ((401 : Nat) : Int); omega) (fun z17 hz17 => ?_)
  refine hA_icmp (zs_icmpeq em12_18 (t := 23) (by decide)) (fun (c18 : z8.toInt = z17.toInt) => ?_) (fun (c18 : ¬ z8.toInt = z17.toInt) => ?_)
  · refine hA_const (k := 0) (zs_iconst (v := 0) em12_23 (by decide +kernel)) (by decide +kernel) (fun z23 hz23 => ?_)
    refine hA_istore (L' := [some (.inr (.inl (some 12))), some (.inl x1), some (.inl x2), some (.inl z23)]) (zs_istore_n em12_24) ⟨Nat.le_of_ble_eq_true rfl, rfl⟩ rfl ?_
    exact loop _ z23 (by omega) (by omega) rfl
  · refine hA_const (k := 0) (zs_iconst (v := 0) em12_21 (by decide +kernel)) (by decide +kernel) (fun z21 hz21 => ?_)
    refine hA_zreturn ⟨rfl, em12_22⟩ ⟨Nat.le_refl _, Nat.le_refl _⟩ ⟨by omega, by omega⟩ ?_
    exact ⟨⟨_, List.mem_cons_self, ⟨_, rfl, show (0 : Int) ≤ _ by omega, show _ ≤ (1 : Int) by omega⟩, hCh_nil, (fun id hl hn => rfl), (fun _ h => absurd h List.not_mem_nil)⟩, (fun _ => hInv), (fun _ id hid => rfl)⟩
theorem em11_0 : decode prog_4_method_14_code 0 = .ok (.iconst 0, 1) := by decide +kernel
theorem em11_1 : decode prog_4_method_14_code 1 = .ok (.istore 4, 2) := by decide +kernel
theorem em11_3 : decode prog_4_method_14_code 3 = .ok (.iconst 0, 1) := by decide +kernel
theorem em11_4 : decode prog_4_method_14_code 4 = .ok (.istore 5, 2) := by decide +kernel
theorem em11_6 : decode prog_4_method_14_code 6 = .ok (.iload 5, 2) := by decide +kernel
theorem em11_8 : decode prog_4_method_14_code 8 = .ok (.aload_n 0, 1) := by decide +kernel
theorem em11_9 : decode prog_4_method_14_code 9 = .ok (.getfield 21, 3) := by decide +kernel
theorem em11_12 : decode prog_4_method_14_code 12 = .ok (.getfield 102, 3) := by decide +kernel
theorem em11_15 : decode prog_4_method_14_code 15 = .ok (.iload_n 1, 1) := by decide +kernel
theorem em11_16 : decode prog_4_method_14_code 16 = .ok (.iaload, 1) := by decide +kernel
theorem em11_17 : decode prog_4_method_14_code 17 = .ok (.if_icmp .ge 37, 3) := by decide +kernel
theorem em11_20 : decode prog_4_method_14_code 20 = .ok (.iload 4, 2) := by decide +kernel
theorem em11_22 : decode prog_4_method_14_code 22 = .ok (.bipush 10, 2) := by decide +kernel
theorem em11_24 : decode prog_4_method_14_code 24 = .ok (.imul, 1) := by decide +kernel
theorem em11_25 : decode prog_4_method_14_code 25 = .ok (.aload_n 0, 1) := by decide +kernel
theorem em11_26 : decode prog_4_method_14_code 26 = .ok (.getfield 29, 3) := by decide +kernel
theorem em11_29 : decode prog_4_method_14_code 29 = .ok (.aload_n 0, 1) := by decide +kernel
theorem em11_30 : decode prog_4_method_14_code 30 = .ok (.getfield 21, 3) := by decide +kernel
theorem em11_33 : decode prog_4_method_14_code 33 = .ok (.getfield 83, 3) := by decide +kernel
theorem em11_36 : decode prog_4_method_14_code 36 = .ok (.iload_n 1, 1) := by decide +kernel
theorem em11_37 : decode prog_4_method_14_code 37 = .ok (.iaload, 1) := by decide +kernel
theorem em11_38 : decode prog_4_method_14_code 38 = .ok (.iload 5, 2) := by decide +kernel
theorem em11_40 : decode prog_4_method_14_code 40 = .ok (.iadd, 1) := by decide +kernel
theorem em11_41 : decode prog_4_method_14_code 41 = .ok (.baload, 1) := by decide +kernel
theorem em11_42 : decode prog_4_method_14_code 42 = .ok (.iadd, 1) := by decide +kernel
theorem em11_43 : decode prog_4_method_14_code 43 = .ok (.bipush 48, 2) := by decide +kernel
theorem em11_45 : decode prog_4_method_14_code 45 = .ok (.isub, 1) := by decide +kernel
theorem em11_46 : decode prog_4_method_14_code 46 = .ok (.istore 4, 2) := by decide +kernel
theorem em11_48 : decode prog_4_method_14_code 48 = .ok (.iinc 5 1, 3) := by decide +kernel
theorem em11_51 : decode prog_4_method_14_code 51 = .ok (.goto (-45), 3) := by decide +kernel
theorem em11_54 : decode prog_4_method_14_code 54 = .ok (.aload_n 0, 1) := by decide +kernel
theorem em11_55 : decode prog_4_method_14_code 55 = .ok (.iload 4, 2) := by decide +kernel
theorem em11_57 : decode prog_4_method_14_code 57 = .ok (.iload_n 2, 1) := by decide +kernel
theorem em11_58 : decode prog_4_method_14_code 58 = .ok (.if_icmp .lt 9, 3) := by decide +kernel
theorem em11_61 : decode prog_4_method_14_code 61 = .ok (.iload 4, 2) := by decide +kernel
theorem em11_63 : decode prog_4_method_14_code 63 = .ok (.iload_n 3, 1) := by decide +kernel
theorem em11_64 : decode prog_4_method_14_code 64 = .ok (.if_icmp .le 7, 3) := by decide +kernel
theorem em11_67 : decode prog_4_method_14_code 67 = .ok (.iconst 1, 1) := by decide +kernel
theorem em11_68 : decode prog_4_method_14_code 68 = .ok (.goto 4, 3) := by decide +kernel
theorem em11_71 : decode prog_4_method_14_code 71 = .ok (.iconst 0, 1) := by decide +kernel
theorem em11_72 : decode prog_4_method_14_code 72 = .ok (.iconst 5, 1) := by decide +kernel
theorem em11_73 : decode prog_4_method_14_code 73 = .ok (.iload_n 1, 1) := by decide +kernel
theorem em11_74 : decode prog_4_method_14_code 74 = .ok (.invokevirtual 98, 3) := by decide +kernel
theorem em11_77 : decode prog_4_method_14_code 77 = .ok (.iload 4, 2) := by decide +kernel
theorem em11_79 : decode prog_4_method_14_code 79 = .ok (.ireturn, 1) := by decide +kernel
set_option maxRecDepth 10000 in
set_option maxHeartbeats 4000000 in
theorem hM_11 : zOKh 11 zc_11 := by
  intro d hc as I q h hq
  obtain ⟨hd, ⟨_, _, rfl, rfl, ⟨_, _, rfl, ⟨x1, rfl, hx1, hx1b⟩, ⟨_, _, rfl, ⟨x2, rfl, hx2, hx2b⟩, ⟨_, _, rfl, ⟨x3, rfl, hx3, hx3b⟩, rfl⟩⟩⟩⟩, hF, hI⟩ := h
  have hd : 6 ≤ d + 1 := hd
  have hx1 : (0 : Int) ≤ x1.toInt := hx1
  have hx1b : x1.toInt ≤ (400 : Int) := hx1b
  have hx2 : ((-2147483648) : Int) ≤ x2.toInt := hx2
  have hx2b : x2.toInt ≤ (2147483647 : Int) := hx2b
  have hx3 : ((-2147483648) : Int) ≤ x3.toInt := hx3
  have hx3b : x3.toInt ≤ (2147483647 : Int) := hx3b
  have hInv : zInv I := hI rfl
  cases (show some _ = some q from hq)
  have ht := tokP hInv hx1 hx1b
  have loop : ∀ (n : Nat) (nb : Int32) (i : Int32) (hi : 0 ≤ i.toInt), (2001 - i.toInt).toNat = n → zAt zG0 PZ zbd zpre zpost (d, (zbd 11).1, (zbd 11).2) prog_4_method_14_code "CapitalCase$Parser" (zRet prog_4_method_14_code (some .int) (zbd 11) (fun r I' => aPost zInv zc_11 [.inr (.inl (some 12)), .inl x1, .inl x2, .inl x3] I r I')) 6 [some (.inr (.inl (some 12))), some (.inl x1), some (.inl x2), some (.inl x3), some (.inl nb), some (.inl i)] [] I (0, 0) := by
    intro n
    induction n using Nat.strongRecOn with
    | ind n ih =>
      intro nb i hi hn
      refine hA_iload (zs_iload em11_6) rfl ?_
      refine hA_aload (zs_aload_n em11_8) rfl ?_
      refine hA_getf2 (r := 23) (zs_getf (T := TX2) (M := 10) (ci := 2) (j := 1) em11_9 rfl inX2 (by decide) wd_283 ((congrFun xo_3 21).trans rfl)) ⟨_, rfl, rfl⟩ ?_
      refine hA_getf2 (r := 26) (zs_getf (T := TX7) (M := 3) (ci := 7) (j := 2) em11_12 rfl inX7 (by decide) wd_273 ((congrFun xo_3 102).trans rfl)) ⟨_, rfl, rfl⟩ ?_
      refine hA_iload (zs_iload_n em11_15) rfl ?_
      refine hA_iald (kd := 26) (len := 401) (zs_iald em11_16) ⟨rfl, rfl, rfl⟩ (by omega) (by show _ < ((401 : Nat) : Int); omega) (fun z16 hz16 => ?_)
      refine hA_icmp (zs_icmpge em11_17 (t := 54) (by decide)) (fun (c17 : z16.toInt ≤ i.toInt) => ?_) (fun (c17 : ¬ z16.toInt ≤ i.toInt) => ?_)
      · refine hA_aload (zs_aload_n em11_54) rfl ?_
        refine hA_iload (zs_iload em11_55) rfl ?_
        refine hA_iload (zs_iload_n em11_57) rfl ?_
        refine hA_icmp (zs_icmplt em11_58 (t := 67) (by decide)) (fun (c58 : nb.toInt < x2.toInt) => ?_) (fun (c58 : ¬ nb.toInt < x2.toInt) => ?_)
        · refine hA_const (k := 1) (zs_iconst (v := 1) em11_67 (by decide +kernel)) (by decide +kernel) (fun z67 hz67 => ?_)
          refine hA_goto (zs_goto em11_68 (t := 72) (by decide)) ?_
          refine hA_const (k := 5) (zs_iconst (v := 5) em11_72 (by decide +kernel)) (by decide +kernel) (fun z72 hz72 => ?_)
          refine hA_iload (zs_iload_n em11_73) rfl ?_
          refine hA_callV (as := [.inl z67, .inl z72, .inl x1]) (rest := []) (B' := (0, 0)) (zs_invV (T := TX2) em11_74 zl_14 rfl wd_780 wd_782 wd_8 ((congrFun xo_3 98).trans rfl) xm_14) rfl ⟨_, rfl⟩ (Nat.le_of_ble_eq_true rfl) rfl ⟨Nat.zero_le _, Nat.zero_le _⟩ (zpre_of zh_14 ⟨(by show 1 ≤ d; omega), ⟨_, _, rfl, rfl, ⟨_, _, rfl, ⟨_, rfl, show (0 : Int) ≤ z67.toInt by omega, show z67.toInt ≤ (1 : Int) by omega⟩, ⟨_, _, rfl, ⟨_, rfl, show (1 : Int) ≤ z72.toInt by omega, show z72.toInt ≤ (6 : Int) by omega⟩, ⟨_, _, rfl, ⟨_, rfl, show (0 : Int) ≤ x1.toInt by omega, show x1.toInt ≤ (400 : Int) by omega⟩, rfl⟩⟩⟩⟩, hF_nil, fun _ => hInv⟩) (fun r74 I74 hp74 => ?_)
          replace hp74 := zpost_of zh_14 hp74
          obtain ⟨rfl, rfl, hInv74⟩ := zq_14 hp74
          refine hA_iload (zs_iload em11_77) rfl ?_
          refine hA_ireturn ⟨rfl, em11_79⟩ ⟨Nat.le_refl _, Nat.le_refl _⟩ ?_
          exact ⟨⟨_, List.mem_cons_self, ⟨_, rfl, an_lo _, an_hi _⟩, hCh_nil, (fun id hl hn => rfl), (fun _ h => absurd h List.not_mem_nil)⟩, (fun _ => hInv), (fun _ id hid => rfl)⟩
        · refine hA_iload (zs_iload em11_61) rfl ?_
          refine hA_iload (zs_iload_n em11_63) rfl ?_
          refine hA_icmp (zs_icmple em11_64 (t := 71) (by decide)) (fun (c64 : nb.toInt ≤ x3.toInt) => ?_) (fun (c64 : ¬ nb.toInt ≤ x3.toInt) => ?_)
          · refine hA_const (k := 0) (zs_iconst (v := 0) em11_71 (by decide +kernel)) (by decide +kernel) (fun z71 hz71 => ?_)
            refine hA_const (k := 5) (zs_iconst (v := 5) em11_72 (by decide +kernel)) (by decide +kernel) (fun z72' hz72' => ?_)
            refine hA_iload (zs_iload_n em11_73) rfl ?_
            refine hA_callV (as := [.inl z71, .inl z72', .inl x1]) (rest := []) (B' := (0, 0)) (zs_invV (T := TX2) em11_74 zl_14 rfl wd_780 wd_782 wd_8 ((congrFun xo_3 98).trans rfl) xm_14) rfl ⟨_, rfl⟩ (Nat.le_of_ble_eq_true rfl) rfl ⟨Nat.zero_le _, Nat.zero_le _⟩ (zpre_of zh_14 ⟨(by show 1 ≤ d; omega), ⟨_, _, rfl, rfl, ⟨_, _, rfl, ⟨_, rfl, show (0 : Int) ≤ z71.toInt by omega, show z71.toInt ≤ (1 : Int) by omega⟩, ⟨_, _, rfl, ⟨_, rfl, show (1 : Int) ≤ z72'.toInt by omega, show z72'.toInt ≤ (6 : Int) by omega⟩, ⟨_, _, rfl, ⟨_, rfl, show (0 : Int) ≤ x1.toInt by omega, show x1.toInt ≤ (400 : Int) by omega⟩, rfl⟩⟩⟩⟩, hF_nil, fun _ => hInv⟩) (fun r74 I74 hp74 => ?_)
            replace hp74 := zpost_of zh_14 hp74
            obtain ⟨rfl, rfl, hInv74⟩ := zq_14 hp74
            refine hA_iload (zs_iload em11_77) rfl ?_
            refine hA_ireturn ⟨rfl, em11_79⟩ ⟨Nat.le_refl _, Nat.le_refl _⟩ ?_
            exact ⟨⟨_, List.mem_cons_self, ⟨_, rfl, an_lo _, an_hi _⟩, hCh_nil, (fun id hl hn => rfl), (fun _ h => absurd h List.not_mem_nil)⟩, (fun _ => hInv), (fun _ id hid => rfl)⟩
          · refine hA_const (k := 1) (zs_iconst (v := 1) em11_67 (by decide +kernel)) (by decide +kernel) (fun z67' hz67' => ?_)
            refine hA_goto (zs_goto em11_68 (t := 72) (by decide)) ?_
            refine hA_const (k := 5) (zs_iconst (v := 5) em11_72 (by decide +kernel)) (by decide +kernel) (fun z72'' hz72'' => ?_)
            refine hA_iload (zs_iload_n em11_73) rfl ?_
            refine hA_callV (as := [.inl z67', .inl z72'', .inl x1]) (rest := []) (B' := (0, 0)) (zs_invV (T := TX2) em11_74 zl_14 rfl wd_780 wd_782 wd_8 ((congrFun xo_3 98).trans rfl) xm_14) rfl ⟨_, rfl⟩ (Nat.le_of_ble_eq_true rfl) rfl ⟨Nat.zero_le _, Nat.zero_le _⟩ (zpre_of zh_14 ⟨(by show 1 ≤ d; omega), ⟨_, _, rfl, rfl, ⟨_, _, rfl, ⟨_, rfl, show (0 : Int) ≤ z67'.toInt by omega, show z67'.toInt ≤ (1 : Int) by omega⟩, ⟨_, _, rfl, ⟨_, rfl, show (1 : Int) ≤ z72''.toInt by omega, show z72''.toInt ≤ (6 : Int) by omega⟩, ⟨_, _, rfl, ⟨_, rfl, show (0 : Int) ≤ x1.toInt by omega, show x1.toInt ≤ (400 : Int) by omega⟩, rfl⟩⟩⟩⟩, hF_nil, fun _ => hInv⟩) (fun r74 I74 hp74 => ?_)
            replace hp74 := zpost_of zh_14 hp74
            obtain ⟨rfl, rfl, hInv74⟩ := zq_14 hp74
            refine hA_iload (zs_iload em11_77) rfl ?_
            refine hA_ireturn ⟨rfl, em11_79⟩ ⟨Nat.le_refl _, Nat.le_refl _⟩ ?_
            exact ⟨⟨_, List.mem_cons_self, ⟨_, rfl, an_lo _, an_hi _⟩, hCh_nil, (fun id hl hn => rfl), (fun _ h => absurd h List.not_mem_nil)⟩, (fun _ => hInv), (fun _ id hid => rfl)⟩
      · refine hA_iload (zs_iload em11_20) rfl ?_
        refine hA_const (k := 10) (zs_bipush (v := 10) em11_22 (by decide +kernel)) (by decide +kernel) (fun z22 hz22 => ?_)
        refine hA_bin (zs_imul em11_24) (fun z24 => ?_)
        refine hA_aload (zs_aload_n em11_25) rfl ?_
        refine hA_getf2 (r := 1) (zs_getf (T := TX2) (M := 10) (ci := 2) (j := 2) em11_26 rfl inX2 (by decide) wd_284 ((congrFun xo_3 29).trans rfl)) ⟨_, rfl, rfl⟩ ?_
        refine hA_aload (zs_aload_n em11_29) rfl ?_
        refine hA_getf2 (r := 23) (zs_getf (T := TX2) (M := 10) (ci := 2) (j := 1) em11_30 rfl inX2 (by decide) wd_283 ((congrFun xo_3 21).trans rfl)) ⟨_, rfl, rfl⟩ ?_
        refine hA_getf2 (r := 25) (zs_getf (T := TX7) (M := 3) (ci := 7) (j := 1) em11_33 rfl inX7 (by decide) wd_271 ((congrFun xo_3 83).trans rfl)) ⟨_, rfl, rfl⟩ ?_
        refine hA_iload (zs_iload_n em11_36) rfl ?_
        refine hA_iald (kd := 25) (len := 401) (zs_iald em11_37) ⟨rfl, rfl, rfl⟩ (by omega) (by show _ < ((401 : Nat) : Int); omega) (fun z37 hz37 => ?_)
        refine hA_iload (zs_iload em11_38) rfl ?_
        refine hA_add (zs_iadd em11_40) (by omega) (by omega) (fun z40 hz40 => ?_)
        refine hA_baldH (kd := 1) (len := 2000) (zs_bald em11_41) ⟨rfl, rfl, rfl, Or.inl rfl⟩ (by omega) (by show _ < ((2000 : Nat) : Int); omega) (fun z41 hz41 => ?_)
        have hbz41 : ((-128) : Int) ≤ z41.toInt ∧ z41.toInt ≤ 127 := eall rfl hz41
        refine hA_bin (zs_iadd em11_42) (fun z42 => ?_)
        refine hA_const (k := 48) (zs_bipush (v := 48) em11_43 (by decide +kernel)) (by decide +kernel) (fun z43 hz43 => ?_)
        refine hA_bin (zs_isub em11_45) (fun z45 => ?_)
        refine hA_istore (L' := [some (.inr (.inl (some 12))), some (.inl x1), some (.inl x2), some (.inl x3), some (.inl z45), some (.inl i)]) (zs_istore em11_46) ⟨Nat.le_of_ble_eq_true rfl, rfl⟩ rfl ?_
        refine hA_iinc (c := 1) (zs_iinc (k := 1) em11_48 (by decide +kernel)) (by decide +kernel) rfl ⟨Nat.le_of_ble_eq_true rfl, rfl⟩ (by omega) (by omega) (fun z48 hz48 => ?_)
        show zAt _ _ _ _ _ _ _ _ _ _ [some (.inr (.inl (some 12))), some (.inl x1), some (.inl x2), some (.inl x3), some (.inl z45), some (.inl z48)] _ _ _
        refine hA_goto (zs_goto em11_51 (t := 6) (by decide)) ?_
        exact ih _ (by omega) z45 z48 (by omega) rfl
  refine hmet (L := [some (.inr (.inl (some 12))), some (.inl x1), some (.inl x2), some (.inl x3), none, none]) (by decide) (Nat.le_of_ble_eq_true rfl) hc rfl ?_
  refine hA_const (k := 0) (zs_iconst (v := 0) em11_0 (by decide +kernel)) (by decide +kernel) (fun z0 hz0 => ?_)
  refine hA_istore (L' := [some (.inr (.inl (some 12))), some (.inl x1), some (.inl x2), some (.inl x3), some (.inl z0), none]) (zs_istore em11_1) ⟨Nat.le_of_ble_eq_true rfl, rfl⟩ rfl ?_
  refine hA_const (k := 0) (zs_iconst (v := 0) em11_3 (by decide +kernel)) (by decide +kernel) (fun z3 hz3 => ?_)
  refine hA_istore (L' := [some (.inr (.inl (some 12))), some (.inl x1), some (.inl x2), some (.inl x3), some (.inl z0), some (.inl z3)]) (zs_istore em11_4) ⟨Nat.le_of_ble_eq_true rfl, rfl⟩ rfl ?_
  exact loop _ z0 z3 (by omega) rfl
theorem em236_0 : decode prog_4_method_18_code 0 = .ok (.aload_n 0, 1) := by decide +kernel
theorem em236_1 : decode prog_4_method_18_code 1 = .ok (.invokevirtual 53, 3) := by decide +kernel
theorem em236_4 : decode prog_4_method_18_code 4 = .ok (.istore_n 2, 1) := by decide +kernel
theorem em236_5 : decode prog_4_method_18_code 5 = .ok (.iload_n 2, 1) := by decide +kernel
theorem em236_6 : decode prog_4_method_18_code 6 = .ok (.bipush 40, 2) := by decide +kernel
theorem em236_8 : decode prog_4_method_18_code 8 = .ok (.if_icmp .ne 51, 3) := by decide +kernel
theorem em236_11 : decode prog_4_method_18_code 11 = .ok (.iload_n 1, 1) := by decide +kernel
theorem em236_12 : decode prog_4_method_18_code 12 = .ok (.bipush 6, 2) := by decide +kernel
theorem em236_14 : decode prog_4_method_18_code 14 = .ok (.if_icmp .lt 11, 3) := by decide +kernel
theorem em236_17 : decode prog_4_method_18_code 17 = .ok (.aload_n 0, 1) := by decide +kernel
theorem em236_18 : decode prog_4_method_18_code 18 = .ok (.iconst 2, 1) := by decide +kernel
theorem em236_19 : decode prog_4_method_18_code 19 = .ok (.invokevirtual 70, 3) := by decide +kernel
theorem em236_22 : decode prog_4_method_18_code 22 = .ok (.goto 36, 3) := by decide +kernel
theorem em236_25 : decode prog_4_method_18_code 25 = .ok (.aload_n 0, 1) := by decide +kernel
theorem em236_26 : decode prog_4_method_18_code 26 = .ok (.bipush 40, 2) := by decide +kernel
theorem em236_28 : decode prog_4_method_18_code 28 = .ok (.invokevirtual 89, 3) := by decide +kernel
theorem em236_31 : decode prog_4_method_18_code 31 = .ok (.ifCond .eq 26, 3) := by decide +kernel
theorem em236_34 : decode prog_4_method_18_code 34 = .ok (.aload_n 0, 1) := by decide +kernel
theorem em236_35 : decode prog_4_method_18_code 35 = .ok (.iload_n 1, 1) := by decide +kernel
theorem em236_36 : decode prog_4_method_18_code 36 = .ok (.iconst 1, 1) := by decide +kernel
theorem em236_37 : decode prog_4_method_18_code 37 = .ok (.iadd, 1) := by decide +kernel
theorem em236_38 : decode prog_4_method_18_code 38 = .ok (.invokevirtual 150, 3) := by decide +kernel
theorem em236_41 : decode prog_4_method_18_code 41 = .ok (.ifCond .eq 16, 3) := by decide +kernel
theorem em236_44 : decode prog_4_method_18_code 44 = .ok (.aload_n 0, 1) := by decide +kernel
theorem em236_45 : decode prog_4_method_18_code 45 = .ok (.bipush 41, 2) := by decide +kernel
theorem em236_47 : decode prog_4_method_18_code 47 = .ok (.invokevirtual 89, 3) := by decide +kernel
theorem em236_50 : decode prog_4_method_18_code 50 = .ok (.ifCond .eq 7, 3) := by decide +kernel
theorem em236_53 : decode prog_4_method_18_code 53 = .ok (.iconst 1, 1) := by decide +kernel
theorem em236_54 : decode prog_4_method_18_code 54 = .ok (.goto 4, 3) := by decide +kernel
theorem em236_57 : decode prog_4_method_18_code 57 = .ok (.iconst 0, 1) := by decide +kernel
theorem em236_58 : decode prog_4_method_18_code 58 = .ok (.ireturn, 1) := by decide +kernel
theorem em236_59 : decode prog_4_method_18_code 59 = .ok (.iload_n 2, 1) := by decide +kernel
theorem em236_60 : decode prog_4_method_18_code 60 = .ok (.iconst 3, 1) := by decide +kernel
theorem em236_61 : decode prog_4_method_18_code 61 = .ok (.if_icmp .ne 29, 3) := by decide +kernel
theorem em236_64 : decode prog_4_method_18_code 64 = .ok (.aload_n 0, 1) := by decide +kernel
theorem em236_65 : decode prog_4_method_18_code 65 = .ok (.getfield 12, 3) := by decide +kernel
theorem em236_68 : decode prog_4_method_18_code 68 = .ok (.iconst 0, 1) := by decide +kernel
theorem em236_69 : decode prog_4_method_18_code 69 = .ok (.aload_n 0, 1) := by decide +kernel
theorem em236_70 : decode prog_4_method_18_code 70 = .ok (.aload_n 0, 1) := by decide +kernel
theorem em236_71 : decode prog_4_method_18_code 71 = .ok (.getfield 40, 3) := by decide +kernel
theorem em236_74 : decode prog_4_method_18_code 74 = .ok (.iconst 0, 1) := by decide +kernel
theorem em236_75 : decode prog_4_method_18_code 75 = .ok (.sipush 9999, 3) := by decide +kernel
theorem em236_78 : decode prog_4_method_18_code 78 = .ok (.invokevirtual 118, 3) := by decide +kernel
theorem em236_81 : decode prog_4_method_18_code 81 = .ok (.invokevirtual 153, 3) := by decide +kernel
theorem em236_84 : decode prog_4_method_18_code 84 = .ok (.aload_n 0, 1) := by decide +kernel
theorem em236_85 : decode prog_4_method_18_code 85 = .ok (.iload_n 2, 1) := by decide +kernel
theorem em236_86 : decode prog_4_method_18_code 86 = .ok (.invokevirtual 89, 3) := by decide +kernel
theorem em236_89 : decode prog_4_method_18_code 89 = .ok (.ireturn, 1) := by decide +kernel
theorem em236_90 : decode prog_4_method_18_code 90 = .ok (.iload_n 2, 1) := by decide +kernel
theorem em236_91 : decode prog_4_method_18_code 91 = .ok (.sipush 140, 3) := by decide +kernel
theorem em236_94 : decode prog_4_method_18_code 94 = .ok (.if_icmp .lt 22, 3) := by decide +kernel
theorem em236_97 : decode prog_4_method_18_code 97 = .ok (.aload_n 0, 1) := by decide +kernel
theorem em236_98 : decode prog_4_method_18_code 98 = .ok (.getfield 12, 3) := by decide +kernel
theorem em236_101 : decode prog_4_method_18_code 101 = .ok (.iconst 1, 1) := by decide +kernel
theorem em236_102 : decode prog_4_method_18_code 102 = .ok (.iload_n 2, 1) := by decide +kernel
theorem em236_103 : decode prog_4_method_18_code 103 = .ok (.sipush 140, 3) := by decide +kernel
theorem em236_106 : decode prog_4_method_18_code 106 = .ok (.isub, 1) := by decide +kernel
theorem em236_107 : decode prog_4_method_18_code 107 = .ok (.invokevirtual 153, 3) := by decide +kernel
theorem em236_110 : decode prog_4_method_18_code 110 = .ok (.aload_n 0, 1) := by decide +kernel
theorem em236_111 : decode prog_4_method_18_code 111 = .ok (.iload_n 2, 1) := by decide +kernel
theorem em236_112 : decode prog_4_method_18_code 112 = .ok (.invokevirtual 89, 3) := by decide +kernel
theorem em236_115 : decode prog_4_method_18_code 115 = .ok (.ireturn, 1) := by decide +kernel
theorem em236_116 : decode prog_4_method_18_code 116 = .ok (.aload_n 0, 1) := by decide +kernel
theorem em236_117 : decode prog_4_method_18_code 117 = .ok (.iconst 1, 1) := by decide +kernel
theorem em236_118 : decode prog_4_method_18_code 118 = .ok (.invokevirtual 70, 3) := by decide +kernel
theorem em236_121 : decode prog_4_method_18_code 121 = .ok (.ireturn, 1) := by decide +kernel
set_option maxRecDepth 10000 in
set_option maxHeartbeats 4000000 in
theorem hM_268 : zOKx 268 := by
  intro d hc as I q h hq
  have h : hpr_268 (d + 1) as I := h
  obtain ⟨a, rfl, hd, hpre⟩ := h
  cases (show some _ = some q from hq)
  obtain ⟨hp0, hp1, h2a, h2b, h4a, h4b, hInv⟩ := hpre
  have hG0 := pFr_rf ⟨h2a, h2b⟩ h4b hInv
  have htk := tokP hInv h2a h2b
  refine hmet (L := [some (.inr (.inl (some 12))), some (.inl a), none]) (by decide) (Nat.le_of_ble_eq_true rfl) hc rfl ?_
  refine hA_aload (zs_aload_n em236_0) rfl ?_
  refine hA_callV (as := []) (rest := []) (B' := (0, 0)) (zs_invV (T := TX2) em236_1 zl_283 rfl wd_756 wd_758 wd_2 ((congrFun xo_3 53).trans rfl) xm_13) rfl ⟨_, rfl⟩ (Nat.le_of_ble_eq_true rfl) rfl ⟨Nat.zero_le _, Nat.zero_le _⟩ (hpre_of rfl (show hpr_283 d [.inr (.inl (some 12))] I from ⟨by show 1 ≤ d; omega, rfl, ⟨by omega, by omega⟩⟩)) (fun r1 I1 hp1 => ?_)
  replace hp1 : hpo_283 _ _ _ _ := hpost_of rfl hp1
  replace hp1 := hp1 rfl
  obtain ⟨z1, rfl, hz1, rfl⟩ := hp1
  refine hA_istore (L' := [some (.inr (.inl (some 12))), some (.inl a), some (.inl z1)]) (zs_istore_n em236_4) ⟨Nat.le_of_ble_eq_true rfl, rfl⟩ rfl ?_
  refine hA_iload (zs_iload_n em236_5) rfl ?_
  refine hA_const (k := 40) (zs_bipush (v := 40) em236_6 (by decide +kernel)) (by decide +kernel) (fun z6 hz6 => ?_)
  refine hA_icmp (zs_icmpne em236_8 (t := 59) (by decide)) (fun (c8 : ¬ z1.toInt = z6.toInt) => ?_) (fun (c8 : ¬ ¬ z1.toInt = z6.toInt) => ?_)
  · refine hA_iload (zs_iload_n em236_59) rfl ?_
    refine hA_const (k := 3) (zs_iconst (v := 3) em236_60 (by decide +kernel)) (by decide +kernel) (fun z60 hz60 => ?_)
    refine hA_icmp (zs_icmpne em236_61 (t := 90) (by decide)) (fun (c61 : ¬ z1.toInt = z60.toInt) => ?_) (fun (c61 : ¬ ¬ z1.toInt = z60.toInt) => ?_)
    · refine hA_iload (zs_iload_n em236_90) rfl ?_
      refine hA_const (k := 140) (zs_sipush (v := 140) em236_91 (by decide +kernel)) (by decide +kernel) (fun z91 hz91 => ?_)
      refine hA_icmp (zs_icmplt em236_94 (t := 116) (by decide)) (fun (c94 : z1.toInt < z91.toInt) => ?_) (fun (c94 : ¬ z1.toInt < z91.toInt) => ?_)
      · refine hA_aload (zs_aload_n em236_116) rfl ?_
        refine hA_const (k := 1) (zs_iconst (v := 1) em236_117 (by decide +kernel)) (by decide +kernel) (fun z117 hz117 => ?_)
        refine hA_callV (as := [.inl z117]) (rest := []) (B' := (0, 0)) (zs_invV (T := TX2) em236_118 zl_10 rfl wd_764 wd_766 wd_4 ((congrFun xo_3 70).trans rfl) xm_10) rfl ⟨_, rfl⟩ (Nat.le_of_ble_eq_true rfl) rfl ⟨Nat.zero_le _, Nat.zero_le _⟩ (zpre_of zh_10 ⟨(by show 1 ≤ d; omega), ⟨_, _, rfl, rfl, ⟨_, _, rfl, ⟨_, rfl, show (1 : Int) ≤ z117.toInt by omega, show z117.toInt ≤ (6 : Int) by omega⟩, rfl⟩⟩, (hF_cons (lo := 0) (hi := 400) ⟨by omega, by omega⟩ hF_nil), fun _ => hInv⟩) (fun r118 I118 hp118 => ?_)
        replace hp118 := zpost_of zh_10 hp118
        obtain ⟨z118, rfl, hz118l, hz118h, rfl, hInv118⟩ := zq_10 hp118
        refine hA_zreturn ⟨rfl, em236_121⟩ ⟨Nat.le_refl _, Nat.le_refl _⟩ ⟨by omega, by omega⟩ ?_
        intro a' he
        cases he
        exact ⟨_, rfl, by omega, by omega, hG0⟩
      · refine hA_aload (zs_aload_n em236_97) rfl ?_
        refine hA_getf2 (r := 13) (zs_getf (T := TX2) (M := 10) (ci := 2) (j := 0) em236_98 rfl inX2 (by decide) wd_281 ((congrFun xo_3 12).trans rfl)) ⟨_, rfl, rfl⟩ ?_
        refine hA_const (k := 1) (zs_iconst (v := 1) em236_101 (by decide +kernel)) (by decide +kernel) (fun z101 hz101 => ?_)
        refine hA_iload (zs_iload_n em236_102) rfl ?_
        refine hA_const (k := 140) (zs_sipush (v := 140) em236_103 (by decide +kernel)) (by decide +kernel) (fun z103 hz103 => ?_)
        refine hA_sub (zs_isub em236_106) (by omega) (by omega) (fun z106 hz106 => ?_)
        refine hA_callV (as := [.inl z101, .inl z106]) (rest := []) (B' := (0, 0)) (zs_invV (T := TX6) em236_107 zl_282 rfl wd_816 wd_159 wd_160 ((congrFun xo_3 153).trans rfl) xm_43) rfl ⟨_, rfl⟩ (Nat.le_of_ble_eq_true rfl) rfl ⟨Nat.zero_le _, Nat.zero_le _⟩ (hpre_of rfl (show hpr_282 d [.inr (.inl (some 13)), .inl z101, .inl z106] I from ⟨by show 1 ≤ d; omega, z101, z106, rfl, ⟨by omega, by omega⟩⟩)) (fun r107 I107 hp107 => ?_)
        replace hp107 : hpo_282 _ _ _ _ := hpost_of rfl hp107
        replace hp107 := hp107 z101 z106 rfl
        replace hp107 := pFr_add ⟨by omega, by omega⟩ ⟨by omega, by omega⟩ hInv (fun h => ⟨by omega, by omega⟩) hp107
        obtain ⟨rfl, hF107⟩ := hp107
        have hG107 : pFr I I107 := pFr_tr hG0 hF107
        obtain ⟨-, -, ⟨hI107a, hI107b⟩, ⟨hI107c, hI107d⟩, -, hInv107⟩ := id hG107
        refine hA_aload (zs_aload_n em236_110) rfl ?_
        refine hA_iload (zs_iload_n em236_111) rfl ?_
        refine hA_callV (as := [.inl z1]) (rest := []) (B' := (0, 0)) (zs_invV (T := TX2) em236_112 zl_284 rfl wd_768 wd_770 wd_5 ((congrFun xo_3 89).trans rfl) xm_9) rfl ⟨_, rfl⟩ (Nat.le_of_ble_eq_true rfl) rfl ⟨Nat.zero_le _, Nat.zero_le _⟩ (hpre_of rfl (show hpr_284 d _ _ from ⟨by show 3 ≤ d; omega, z1, rfl, ⟨by omega, by omega, hInv107⟩⟩)) (fun r112 I112 hp112 => ?_)
        replace hp112 : hpo_284 _ _ _ _ := hpost_of rfl hp112
        obtain ⟨z112, rfl, ⟨hz112, rfl⟩ | ⟨hz112, hz112k, hz112m, v112, hv112, rfl⟩⟩ := hp112 z1 rfl
        · refine hA_zreturn ⟨rfl, em236_115⟩ ⟨Nat.le_refl _, Nat.le_refl _⟩ ⟨by omega, by omega⟩ ?_
          intro a' he
          cases he
          exact ⟨_, rfl, by omega, by omega, hG107⟩
        · refine hA_zreturn ⟨rfl, em236_115⟩ ⟨Nat.le_refl _, Nat.le_refl _⟩ ⟨by omega, by omega⟩ ?_
          intro a' he
          cases he
          exact ⟨_, rfl, by omega, by omega, (pFr_at hG107 (by omega) (by omega))⟩
    · refine hA_aload (zs_aload_n em236_64) rfl ?_
      refine hA_getf2 (r := 13) (zs_getf (T := TX2) (M := 10) (ci := 2) (j := 0) em236_65 rfl inX2 (by decide) wd_281 ((congrFun xo_3 12).trans rfl)) ⟨_, rfl, rfl⟩ ?_
      refine hA_const (k := 0) (zs_iconst (v := 0) em236_68 (by decide +kernel)) (by decide +kernel) (fun z68 hz68 => ?_)
      refine hA_aload (zs_aload_n em236_69) rfl ?_
      refine hA_aload (zs_aload_n em236_70) rfl ?_
      refine hA_getf0 (id := 2) (zs_getf (T := TX2) (M := 10) (ci := 2) (j := 3) em236_71 rfl inX2 (by decide) wd_285 ((congrFun xo_3 40).trans rfl)) ⟨_, rfl, rfl⟩ (fun z71 hz71 => ?_)
      refine hA_const (k := 0) (zs_iconst (v := 0) em236_74 (by decide +kernel)) (by decide +kernel) (fun z74 hz74 => ?_)
      refine hA_const (k := 9999) (zs_sipush (v := 9999) em236_75 (by decide +kernel)) (by decide +kernel) (fun z75 hz75 => ?_)
      refine hA_callV (as := [.inl z71, .inl z74, .inl z75]) (rest := [.inl z68, .inr (.inl (some 13))]) (B' := (0, 0)) (zs_invV (T := TX2) em236_78 zl_11 rfl wd_796 wd_798 wd_12 ((congrFun xo_3 118).trans rfl) xm_11) rfl ⟨_, rfl⟩ (Nat.le_of_ble_eq_true rfl) rfl ⟨Nat.zero_le _, Nat.zero_le _⟩ (zpre_of zh_11 ⟨(by show 6 ≤ d; omega), ⟨_, _, rfl, rfl, ⟨_, _, rfl, ⟨_, rfl, show (0 : Int) ≤ z71.toInt by omega, show z71.toInt ≤ (400 : Int) by omega⟩, ⟨_, _, rfl, ⟨_, rfl, an_lo _, an_hi _⟩, ⟨_, _, rfl, ⟨_, rfl, an_lo _, an_hi _⟩, rfl⟩⟩⟩⟩, hF_nil, fun _ => hInv⟩) (fun r78 I78 hp78 => ?_)
      replace hp78 := zpost_of zh_11 hp78
      obtain ⟨z78, rfl, hz78l, hz78h, rfl, hInv78⟩ := zq_11 hp78
      refine hA_callV (as := [.inl z68, .inl z78]) (rest := []) (B' := (0, 0)) (zs_invV (T := TX6) em236_81 zl_282 rfl wd_816 wd_159 wd_160 ((congrFun xo_3 153).trans rfl) xm_43) rfl ⟨_, rfl⟩ (Nat.le_of_ble_eq_true rfl) rfl ⟨Nat.zero_le _, Nat.zero_le _⟩ (hpre_of rfl (show hpr_282 d [.inr (.inl (some 13)), .inl z68, .inl z78] I from ⟨by show 1 ≤ d; omega, z68, z78, rfl, ⟨by omega, by omega⟩⟩)) (fun r81 I81 hp81 => ?_)
      replace hp81 : hpo_282 _ _ _ _ := hpost_of rfl hp81
      replace hp81 := hp81 z68 z78 rfl
      replace hp81 := pFr_add ⟨by omega, by omega⟩ ⟨by omega, by omega⟩ hInv (fun h => ⟨by omega, by omega⟩) hp81
      obtain ⟨rfl, hF81⟩ := hp81
      have hG81 : pFr I I81 := pFr_tr hG0 hF81
      obtain ⟨-, -, ⟨hI81a, hI81b⟩, ⟨hI81c, hI81d⟩, -, hInv81⟩ := id hG81
      refine hA_aload (zs_aload_n em236_84) rfl ?_
      refine hA_iload (zs_iload_n em236_85) rfl ?_
      refine hA_callV (as := [.inl z1]) (rest := []) (B' := (0, 0)) (zs_invV (T := TX2) em236_86 zl_284 rfl wd_768 wd_770 wd_5 ((congrFun xo_3 89).trans rfl) xm_9) rfl ⟨_, rfl⟩ (Nat.le_of_ble_eq_true rfl) rfl ⟨Nat.zero_le _, Nat.zero_le _⟩ (hpre_of rfl (show hpr_284 d _ _ from ⟨by show 3 ≤ d; omega, z1, rfl, ⟨by omega, by omega, hInv81⟩⟩)) (fun r86 I86 hp86 => ?_)
      replace hp86 : hpo_284 _ _ _ _ := hpost_of rfl hp86
      obtain ⟨z86, rfl, ⟨hz86, rfl⟩ | ⟨hz86, hz86k, hz86m, v86, hv86, rfl⟩⟩ := hp86 z1 rfl
      · refine hA_zreturn ⟨rfl, em236_89⟩ ⟨Nat.le_refl _, Nat.le_refl _⟩ ⟨by omega, by omega⟩ ?_
        intro a' he
        cases he
        exact ⟨_, rfl, by omega, by omega, hG81⟩
      · refine hA_zreturn ⟨rfl, em236_89⟩ ⟨Nat.le_refl _, Nat.le_refl _⟩ ⟨by omega, by omega⟩ ?_
        intro a' he
        cases he
        exact ⟨_, rfl, by omega, by omega, (pFr_at hG81 (by omega) (by omega))⟩
  · refine hA_iload (zs_iload_n em236_11) rfl ?_
    refine hA_const (k := 6) (zs_bipush (v := 6) em236_12 (by decide +kernel)) (by decide +kernel) (fun z12 hz12 => ?_)
    refine hA_icmp (zs_icmplt em236_14 (t := 25) (by decide)) (fun (c14 : a.toInt < z12.toInt) => ?_) (fun (c14 : ¬ a.toInt < z12.toInt) => ?_)
    · refine hA_aload (zs_aload_n em236_25) rfl ?_
      refine hA_const (k := 40) (zs_bipush (v := 40) em236_26 (by decide +kernel)) (by decide +kernel) (fun z26 hz26 => ?_)
      refine hA_callV (as := [.inl z26]) (rest := []) (B' := (0, 0)) (zs_invV (T := TX2) em236_28 zl_284 rfl wd_768 wd_770 wd_5 ((congrFun xo_3 89).trans rfl) xm_9) rfl ⟨_, rfl⟩ (Nat.le_of_ble_eq_true rfl) rfl ⟨Nat.zero_le _, Nat.zero_le _⟩ (hpre_of rfl (show hpr_284 d _ _ from ⟨by show 3 ≤ d; omega, z26, rfl, ⟨by omega, by omega, hInv⟩⟩)) (fun r28 I28 hp28 => ?_)
      replace hp28 : hpo_284 _ _ _ _ := hpost_of rfl hp28
      obtain ⟨z28, rfl, ⟨hz28, rfl⟩ | ⟨hz28, hz28k, hz28m, v28, hv28, rfl⟩⟩ := hp28 z26 rfl
      · refine hA_if (zs_ifeq em236_31 (t := 57) (by decide)) (fun (c31 : z28.toInt = 0) => ?_) (fun (c31 : ¬ z28.toInt = 0) => ?_)
        · refine hA_const (k := 0) (zs_iconst (v := 0) em236_57 (by decide +kernel)) (by decide +kernel) (fun z57 hz57 => ?_)
          refine hA_zreturn ⟨rfl, em236_58⟩ ⟨Nat.le_refl _, Nat.le_refl _⟩ ⟨by omega, by omega⟩ ?_
          intro a' he
          cases he
          exact ⟨_, rfl, by omega, by omega, hG0⟩
        · exfalso
          omega
      · refine hA_if (zs_ifeq em236_31 (t := 57) (by decide)) (fun (c31' : z28.toInt = 0) => ?_) (fun (c31' : ¬ z28.toInt = 0) => ?_)
        · exfalso
          omega
        · refine hA_aload (zs_aload_n em236_34) rfl ?_
          refine hA_iload (zs_iload_n em236_35) rfl ?_
          refine hA_const (k := 1) (zs_iconst (v := 1) em236_36 (by decide +kernel)) (by decide +kernel) (fun z36 hz36 => ?_)
          refine hA_add (zs_iadd em236_37) (by omega) (by omega) (fun z37 hz37 => ?_)
          refine hA_callV (as := [.inl z37]) (rest := []) (B' := (0, 0)) (zs_invV (T := TX2) em236_38 zl_266 rfl wd_804 wd_806 wd_14 ((congrFun xo_3 150).trans rfl) xm_234) rfl ⟨_, rfl⟩ (Nat.le_of_ble_eq_true rfl) rfl ⟨Nat.zero_le _, Nat.zero_le _⟩ (hpre_of rfl (show hpr_266 d [.inr (.inl (some 12)), .inl z37] (zupd I 2 v28) from ⟨z37, rfl, by show _ ≤ d; omega, ⟨by omega, by omega, by rw [zf_same]; omega, by rw [zf_same]; omega, by rw [zf_ne (by decide)]; omega, by rw [zf_ne (by decide)]; omega, (zextp _ 2 _ rfl (by decide) hInv)⟩⟩)) (fun r38 I38 hp38 => ?_)
          replace hp38 : hpo_266 _ _ _ _ := hpost_of rfl hp38
          replace hp38 := hp38 z37 rfl
          obtain ⟨z38, rfl, hz38l, hz38h, hF38⟩ := hp38
          have hG38 : pFr I I38 := pFr_tr (pFr_at hG0 (by omega) (by omega)) hF38
          obtain ⟨-, -, ⟨hI38a, hI38b⟩, ⟨hI38c, hI38d⟩, -, hInv38⟩ := id hG38
          refine hA_if (zs_ifeq em236_41 (t := 57) (by decide)) (fun (c41 : z38.toInt = 0) => ?_) (fun (c41 : ¬ z38.toInt = 0) => ?_)
          · refine hA_const (k := 0) (zs_iconst (v := 0) em236_57 (by decide +kernel)) (by decide +kernel) (fun z57' hz57' => ?_)
            refine hA_zreturn ⟨rfl, em236_58⟩ ⟨Nat.le_refl _, Nat.le_refl _⟩ ⟨by omega, by omega⟩ ?_
            intro a' he
            cases he
            exact ⟨_, rfl, by omega, by omega, hG38⟩
          · refine hA_aload (zs_aload_n em236_44) rfl ?_
            refine hA_const (k := 41) (zs_bipush (v := 41) em236_45 (by decide +kernel)) (by decide +kernel) (fun z45 hz45 => ?_)
            refine hA_callV (as := [.inl z45]) (rest := []) (B' := (0, 0)) (zs_invV (T := TX2) em236_47 zl_284 rfl wd_768 wd_770 wd_5 ((congrFun xo_3 89).trans rfl) xm_9) rfl ⟨_, rfl⟩ (Nat.le_of_ble_eq_true rfl) rfl ⟨Nat.zero_le _, Nat.zero_le _⟩ (hpre_of rfl (show hpr_284 d _ _ from ⟨by show 3 ≤ d; omega, z45, rfl, ⟨by omega, by omega, hInv38⟩⟩)) (fun r47 I47 hp47 => ?_)
            replace hp47 : hpo_284 _ _ _ _ := hpost_of rfl hp47
            obtain ⟨z47, rfl, ⟨hz47, rfl⟩ | ⟨hz47, hz47k, hz47m, v47, hv47, rfl⟩⟩ := hp47 z45 rfl
            · refine hA_if (zs_ifeq em236_50 (t := 57) (by decide)) (fun (c50 : z47.toInt = 0) => ?_) (fun (c50 : ¬ z47.toInt = 0) => ?_)
              · refine hA_const (k := 0) (zs_iconst (v := 0) em236_57 (by decide +kernel)) (by decide +kernel) (fun z57'' hz57'' => ?_)
                refine hA_zreturn ⟨rfl, em236_58⟩ ⟨Nat.le_refl _, Nat.le_refl _⟩ ⟨by omega, by omega⟩ ?_
                intro a' he
                cases he
                exact ⟨_, rfl, by omega, by omega, hG38⟩
              · exfalso
                omega
            · refine hA_if (zs_ifeq em236_50 (t := 57) (by decide)) (fun (c50' : z47.toInt = 0) => ?_) (fun (c50' : ¬ z47.toInt = 0) => ?_)
              · exfalso
                omega
              · refine hA_const (k := 1) (zs_iconst (v := 1) em236_53 (by decide +kernel)) (by decide +kernel) (fun z53 hz53 => ?_)
                refine hA_goto (zs_goto em236_54 (t := 58) (by decide)) ?_
                refine hA_zreturn ⟨rfl, em236_58⟩ ⟨Nat.le_refl _, Nat.le_refl _⟩ ⟨by omega, by omega⟩ ?_
                intro a' he
                cases he
                exact ⟨_, rfl, by omega, by omega, (pFr_at hG38 (by omega) (by omega))⟩
    · refine hA_aload (zs_aload_n em236_17) rfl ?_
      refine hA_const (k := 2) (zs_iconst (v := 2) em236_18 (by decide +kernel)) (by decide +kernel) (fun z18 hz18 => ?_)
      refine hA_callV (as := [.inl z18]) (rest := []) (B' := (0, 0)) (zs_invV (T := TX2) em236_19 zl_10 rfl wd_764 wd_766 wd_4 ((congrFun xo_3 70).trans rfl) xm_10) rfl ⟨_, rfl⟩ (Nat.le_of_ble_eq_true rfl) rfl ⟨Nat.zero_le _, Nat.zero_le _⟩ (zpre_of zh_10 ⟨(by show 1 ≤ d; omega), ⟨_, _, rfl, rfl, ⟨_, _, rfl, ⟨_, rfl, show (1 : Int) ≤ z18.toInt by omega, show z18.toInt ≤ (6 : Int) by omega⟩, rfl⟩⟩, (hF_cons (lo := 0) (hi := 400) ⟨by omega, by omega⟩ hF_nil), fun _ => hInv⟩) (fun r19 I19 hp19 => ?_)
      replace hp19 := zpost_of zh_10 hp19
      obtain ⟨z19, rfl, hz19l, hz19h, rfl, hInv19⟩ := zq_10 hp19
      refine hA_goto (zs_goto em236_22 (t := 58) (by decide)) ?_
      refine hA_zreturn ⟨rfl, em236_58⟩ ⟨Nat.le_refl _, Nat.le_refl _⟩ ⟨by omega, by omega⟩ ?_
      intro a' he
      cases he
      exact ⟨_, rfl, by omega, by omega, hG0⟩
theorem em235_0 : decode prog_4_method_17_code 0 = .ok (.aload_n 0, 1) := by decide +kernel
theorem em235_1 : decode prog_4_method_17_code 1 = .ok (.iload_n 1, 1) := by decide +kernel
theorem em235_2 : decode prog_4_method_17_code 2 = .ok (.invokevirtual 166, 3) := by decide +kernel
theorem em235_5 : decode prog_4_method_17_code 5 = .ok (.ifCond .ne 5, 3) := by decide +kernel
theorem em235_8 : decode prog_4_method_17_code 8 = .ok (.iconst 0, 1) := by decide +kernel
theorem em235_9 : decode prog_4_method_17_code 9 = .ok (.ireturn, 1) := by decide +kernel
theorem em235_10 : decode prog_4_method_17_code 10 = .ok (.iconst 0, 1) := by decide +kernel
theorem em235_11 : decode prog_4_method_17_code 11 = .ok (.istore_n 2, 1) := by decide +kernel
theorem em235_12 : decode prog_4_method_17_code 12 = .ok (.iload_n 2, 1) := by decide +kernel
theorem em235_13 : decode prog_4_method_17_code 13 = .ok (.sipush 400, 3) := by decide +kernel
theorem em235_16 : decode prog_4_method_17_code 16 = .ok (.if_icmp .ge 69, 3) := by decide +kernel
theorem em235_19 : decode prog_4_method_17_code 19 = .ok (.aload_n 0, 1) := by decide +kernel
theorem em235_20 : decode prog_4_method_17_code 20 = .ok (.invokevirtual 53, 3) := by decide +kernel
theorem em235_23 : decode prog_4_method_17_code 23 = .ok (.bipush 42, 2) := by decide +kernel
theorem em235_25 : decode prog_4_method_17_code 25 = .ok (.if_icmp .eq 12, 3) := by decide +kernel
theorem em235_28 : decode prog_4_method_17_code 28 = .ok (.aload_n 0, 1) := by decide +kernel
theorem em235_29 : decode prog_4_method_17_code 29 = .ok (.invokevirtual 53, 3) := by decide +kernel
theorem em235_32 : decode prog_4_method_17_code 32 = .ok (.bipush 47, 2) := by decide +kernel
theorem em235_34 : decode prog_4_method_17_code 34 = .ok (.if_icmp .ne 51, 3) := by decide +kernel
theorem em235_37 : decode prog_4_method_17_code 37 = .ok (.aload_n 0, 1) := by decide +kernel
theorem em235_38 : decode prog_4_method_17_code 38 = .ok (.invokevirtual 53, 3) := by decide +kernel
theorem em235_41 : decode prog_4_method_17_code 41 = .ok (.istore_n 3, 1) := by decide +kernel
theorem em235_42 : decode prog_4_method_17_code 42 = .ok (.aload_n 0, 1) := by decide +kernel
theorem em235_43 : decode prog_4_method_17_code 43 = .ok (.iload_n 3, 1) := by decide +kernel
theorem em235_44 : decode prog_4_method_17_code 44 = .ok (.invokevirtual 89, 3) := by decide +kernel
theorem em235_47 : decode prog_4_method_17_code 47 = .ok (.ifCond .eq 11, 3) := by decide +kernel
theorem em235_50 : decode prog_4_method_17_code 50 = .ok (.aload_n 0, 1) := by decide +kernel
theorem em235_51 : decode prog_4_method_17_code 51 = .ok (.iload_n 1, 1) := by decide +kernel
theorem em235_52 : decode prog_4_method_17_code 52 = .ok (.invokevirtual 166, 3) := by decide +kernel
theorem em235_55 : decode prog_4_method_17_code 55 = .ok (.ifCond .ne 5, 3) := by decide +kernel
theorem em235_58 : decode prog_4_method_17_code 58 = .ok (.iconst 0, 1) := by decide +kernel
theorem em235_59 : decode prog_4_method_17_code 59 = .ok (.ireturn, 1) := by decide +kernel
theorem em235_60 : decode prog_4_method_17_code 60 = .ok (.aload_n 0, 1) := by decide +kernel
theorem em235_61 : decode prog_4_method_17_code 61 = .ok (.getfield 12, 3) := by decide +kernel
theorem em235_64 : decode prog_4_method_17_code 64 = .ok (.iload_n 3, 1) := by decide +kernel
theorem em235_65 : decode prog_4_method_17_code 65 = .ok (.bipush 42, 2) := by decide +kernel
theorem em235_67 : decode prog_4_method_17_code 67 = .ok (.if_icmp .ne 7, 3) := by decide +kernel
theorem em235_70 : decode prog_4_method_17_code 70 = .ok (.iconst 4, 1) := by decide +kernel
theorem em235_71 : decode prog_4_method_17_code 71 = .ok (.goto 4, 3) := by decide +kernel
theorem em235_74 : decode prog_4_method_17_code 74 = .ok (.iconst 5, 1) := by decide +kernel
theorem em235_75 : decode prog_4_method_17_code 75 = .ok (.iconst 0, 1) := by decide +kernel
theorem em235_76 : decode prog_4_method_17_code 76 = .ok (.invokevirtual 153, 3) := by decide +kernel
theorem em235_79 : decode prog_4_method_17_code 79 = .ok (.iinc 2 1, 3) := by decide +kernel
theorem em235_82 : decode prog_4_method_17_code 82 = .ok (.goto (-70), 3) := by decide +kernel
theorem em235_85 : decode prog_4_method_17_code 85 = .ok (.iconst 1, 1) := by decide +kernel
theorem em235_86 : decode prog_4_method_17_code 86 = .ok (.ireturn, 1) := by decide +kernel
set_option maxRecDepth 10000 in
set_option maxHeartbeats 4000000 in
theorem hM_267 : zOKx 267 := by
  intro d hc as I q h hq
  have h : hpr_267 (d + 1) as I := h
  obtain ⟨a, rfl, hd, hpre⟩ := h
  cases (show some _ = some q from hq)
  obtain ⟨hp0, hp1, h2a, h2b, h4a, h4b, hInv⟩ := hpre
  have hG0 := pFr_rf ⟨h2a, h2b⟩ h4b hInv
  have loop : ∀ (n : Nat) (IJ : zI) (hGJ : pFr I IJ) (i : Int32) (hi : 0 ≤ i.toInt) (hi2 : i.toInt ≤ 400), (400 - i.toInt).toNat = n → zAt zG0 PZ zbd zpre zpost (d, (zbd 267).1, (zbd 267).2) prog_4_method_17_code "CapitalCase$Parser" (zRet prog_4_method_17_code (some .boolean) (zbd 267) (hpost 267 [.inr (.inl (some 12)), .inl a] I)) 12 [some (.inr (.inl (some 12))), some (.inl a), some (.inl i), none] [] IJ (0, 0) := by
    intro n
    induction n using Nat.strongRecOn with
    | ind n ih =>
      intro IJ hGJ i hi hi2 hn
      obtain ⟨-, -, ⟨hIJa, hIJb⟩, ⟨hIJc, hIJd⟩, -, hInvJ⟩ := id hGJ
      refine hA_iload (zs_iload_n em235_12) rfl ?_
      refine hA_const (k := 400) (zs_sipush (v := 400) em235_13 (by decide +kernel)) (by decide +kernel) (fun z13 hz13 => ?_)
      refine hA_icmp (zs_icmpge em235_16 (t := 85) (by decide)) (fun (c16 : z13.toInt ≤ i.toInt) => ?_) (fun (c16 : ¬ z13.toInt ≤ i.toInt) => ?_)
      · refine hA_const (k := 1) (zs_iconst (v := 1) em235_85 (by decide +kernel)) (by decide +kernel) (fun z85 hz85 => ?_)
        refine hA_zreturn ⟨rfl, em235_86⟩ ⟨Nat.le_refl _, Nat.le_refl _⟩ ⟨by omega, by omega⟩ ?_
        intro a' he
        cases he
        exact ⟨_, rfl, by omega, by omega, hGJ⟩
      · refine hA_aload (zs_aload_n em235_19) rfl ?_
        refine hA_callV (as := []) (rest := []) (B' := (0, 0)) (zs_invV (T := TX2) em235_20 zl_283 rfl wd_756 wd_758 wd_2 ((congrFun xo_3 53).trans rfl) xm_13) rfl ⟨_, rfl⟩ (Nat.le_of_ble_eq_true rfl) rfl ⟨Nat.zero_le _, Nat.zero_le _⟩ (hpre_of rfl (show hpr_283 d [.inr (.inl (some 12))] IJ from ⟨by show 1 ≤ d; omega, rfl, ⟨by omega, by omega⟩⟩)) (fun r20 I20 hp20 => ?_)
        replace hp20 : hpo_283 _ _ _ _ := hpost_of rfl hp20
        replace hp20 := hp20 rfl
        obtain ⟨z20, rfl, hz20, rfl⟩ := hp20
        refine hA_const (k := 42) (zs_bipush (v := 42) em235_23 (by decide +kernel)) (by decide +kernel) (fun z23 hz23 => ?_)
        refine hA_icmp (zs_icmpeq em235_25 (t := 37) (by decide)) (fun (c25 : z20.toInt = z23.toInt) => ?_) (fun (c25 : ¬ z20.toInt = z23.toInt) => ?_)
        · have htk := tokP hInvJ hIJa hIJb
          refine hA_aload (zs_aload_n em235_37) rfl ?_
          refine hA_callV (as := []) (rest := []) (B' := (0, 0)) (zs_invV (T := TX2) em235_38 zl_283 rfl wd_756 wd_758 wd_2 ((congrFun xo_3 53).trans rfl) xm_13) rfl ⟨_, rfl⟩ (Nat.le_of_ble_eq_true rfl) rfl ⟨Nat.zero_le _, Nat.zero_le _⟩ (hpre_of rfl (show hpr_283 d [.inr (.inl (some 12))] IJ from ⟨by show 1 ≤ d; omega, rfl, ⟨by omega, by omega⟩⟩)) (fun r38 I38 hp38 => ?_)
          replace hp38 : hpo_283 _ _ _ _ := hpost_of rfl hp38
          replace hp38 := hp38 rfl
          obtain ⟨z38, rfl, hz38, rfl⟩ := hp38
          refine hA_istore (L' := [some (.inr (.inl (some 12))), some (.inl a), some (.inl i), some (.inl z38)]) (zs_istore_n em235_41) ⟨Nat.le_of_ble_eq_true rfl, rfl⟩ rfl ?_
          refine hA_aload (zs_aload_n em235_42) rfl ?_
          refine hA_iload (zs_iload_n em235_43) rfl ?_
          refine hA_callV (as := [.inl z38]) (rest := []) (B' := (0, 0)) (zs_invV (T := TX2) em235_44 zl_284 rfl wd_768 wd_770 wd_5 ((congrFun xo_3 89).trans rfl) xm_9) rfl ⟨_, rfl⟩ (Nat.le_of_ble_eq_true rfl) rfl ⟨Nat.zero_le _, Nat.zero_le _⟩ (hpre_of rfl (show hpr_284 d _ _ from ⟨by show 3 ≤ d; omega, z38, rfl, ⟨by omega, by omega, hInvJ⟩⟩)) (fun r44 I44 hp44 => ?_)
          replace hp44 : hpo_284 _ _ _ _ := hpost_of rfl hp44
          obtain ⟨z44, rfl, ⟨hz44, rfl⟩ | ⟨hz44, hz44k, hz44m, v44, hv44, rfl⟩⟩ := hp44 z38 rfl
          · refine hA_if (zs_ifeq em235_47 (t := 58) (by decide)) (fun (c47 : z44.toInt = 0) => ?_) (fun (c47 : ¬ z44.toInt = 0) => ?_)
            · refine hA_const (k := 0) (zs_iconst (v := 0) em235_58 (by decide +kernel)) (by decide +kernel) (fun z58 hz58 => ?_)
              refine hA_zreturn ⟨rfl, em235_59⟩ ⟨Nat.le_refl _, Nat.le_refl _⟩ ⟨by omega, by omega⟩ ?_
              intro a' he
              cases he
              exact ⟨_, rfl, by omega, by omega, hGJ⟩
            · exfalso
              omega
          · refine hA_if (zs_ifeq em235_47 (t := 58) (by decide)) (fun (c47' : z44.toInt = 0) => ?_) (fun (c47' : ¬ z44.toInt = 0) => ?_)
            · exfalso
              omega
            · refine hA_aload (zs_aload_n em235_50) rfl ?_
              refine hA_iload (zs_iload_n em235_51) rfl ?_
              refine hA_callV (as := [.inl a]) (rest := []) (B' := (0, 0)) (zs_invV (T := TX2) em235_52 zl_268 rfl wd_812 wd_814 wd_16 ((congrFun xo_3 166).trans rfl) xm_236) rfl ⟨_, rfl⟩ (Nat.le_of_ble_eq_true rfl) rfl ⟨Nat.zero_le _, Nat.zero_le _⟩ (hpre_of rfl (show hpr_268 d [.inr (.inl (some 12)), .inl a] (zupd IJ 2 v44) from ⟨a, rfl, by show _ ≤ d; omega, ⟨by omega, by omega, by rw [zf_same]; omega, by rw [zf_same]; omega, by rw [zf_ne (by decide)]; omega, by rw [zf_ne (by decide)]; omega, (zextp _ 2 _ rfl (by decide) hInvJ)⟩⟩)) (fun r52 I52 hp52 => ?_)
              replace hp52 : hpo_268 _ _ _ _ := hpost_of rfl hp52
              replace hp52 := hp52 a rfl
              obtain ⟨z52, rfl, hz52l, hz52h, hF52⟩ := hp52
              have hG52 : pFr I I52 := pFr_tr (pFr_at hGJ (by omega) (by omega)) hF52
              obtain ⟨-, -, ⟨hI52a, hI52b⟩, ⟨hI52c, hI52d⟩, -, hInv52⟩ := id hG52
              refine hA_if (zs_ifne em235_55 (t := 60) (by decide)) (fun (c55 : ¬ z52.toInt = 0) => ?_) (fun (c55 : ¬ ¬ z52.toInt = 0) => ?_)
              · refine hA_aload (zs_aload_n em235_60) rfl ?_
                refine hA_getf2 (r := 13) (zs_getf (T := TX2) (M := 10) (ci := 2) (j := 0) em235_61 rfl inX2 (by decide) wd_281 ((congrFun xo_3 12).trans rfl)) ⟨_, rfl, rfl⟩ ?_
                refine hA_iload (zs_iload_n em235_64) rfl ?_
                refine hA_const (k := 42) (zs_bipush (v := 42) em235_65 (by decide +kernel)) (by decide +kernel) (fun z65 hz65 => ?_)
                refine hA_icmp (zs_icmpne em235_67 (t := 74) (by decide)) (fun (c67 : ¬ z38.toInt = z65.toInt) => ?_) (fun (c67 : ¬ ¬ z38.toInt = z65.toInt) => ?_)
                · refine hA_const (k := 5) (zs_iconst (v := 5) em235_74 (by decide +kernel)) (by decide +kernel) (fun z74 hz74 => ?_)
                  refine hA_const (k := 0) (zs_iconst (v := 0) em235_75 (by decide +kernel)) (by decide +kernel) (fun z75 hz75 => ?_)
                  refine hA_callV (as := [.inl z74, .inl z75]) (rest := []) (B' := (0, 0)) (zs_invV (T := TX6) em235_76 zl_282 rfl wd_816 wd_159 wd_160 ((congrFun xo_3 153).trans rfl) xm_43) rfl ⟨_, rfl⟩ (Nat.le_of_ble_eq_true rfl) rfl ⟨Nat.zero_le _, Nat.zero_le _⟩ (hpre_of rfl (show hpr_282 d [.inr (.inl (some 13)), .inl z74, .inl z75] I52 from ⟨by show 1 ≤ d; omega, z74, z75, rfl, ⟨by omega, by omega⟩⟩)) (fun r76 I76 hp76 => ?_)
                  replace hp76 : hpo_282 _ _ _ _ := hpost_of rfl hp76
                  replace hp76 := hp76 z74 z75 rfl
                  replace hp76 := pFr_add ⟨by omega, by omega⟩ ⟨by omega, by omega⟩ hInv52 (fun h => ⟨by omega, by omega⟩) hp76
                  obtain ⟨rfl, hF76⟩ := hp76
                  have hG76 : pFr I I76 := pFr_tr hG52 hF76
                  obtain ⟨-, -, ⟨hI76a, hI76b⟩, ⟨hI76c, hI76d⟩, -, hInv76⟩ := id hG76
                  refine hA_iinc (c := 1) (zs_iinc (k := 1) em235_79 (by decide +kernel)) (by decide +kernel) rfl ⟨Nat.le_of_ble_eq_true rfl, rfl⟩ (by omega) (by omega) (fun z79 hz79 => ?_)
                  show zAt _ _ _ _ _ _ _ _ _ _ [some (.inr (.inl (some 12))), some (.inl a), some (.inl z79), some (.inl z38)] _ _ _
                  refine hA_goto (zs_goto em235_82 (t := 12) (by decide)) ?_
                  refine hA_fg (L' := [some (.inr (.inl (some 12))), some (.inl a), some (.inl z79), none]) (by repeat (first | exact trivial | refine And.intro rfl ?_)) ?_
                  exact ih _ (by omega) I76 hG76 z79 (by omega) (by omega) rfl
                · refine hA_const (k := 4) (zs_iconst (v := 4) em235_70 (by decide +kernel)) (by decide +kernel) (fun z70 hz70 => ?_)
                  refine hA_goto (zs_goto em235_71 (t := 75) (by decide)) ?_
                  refine hA_const (k := 0) (zs_iconst (v := 0) em235_75 (by decide +kernel)) (by decide +kernel) (fun z75' hz75' => ?_)
                  refine hA_callV (as := [.inl z70, .inl z75']) (rest := []) (B' := (0, 0)) (zs_invV (T := TX6) em235_76 zl_282 rfl wd_816 wd_159 wd_160 ((congrFun xo_3 153).trans rfl) xm_43) rfl ⟨_, rfl⟩ (Nat.le_of_ble_eq_true rfl) rfl ⟨Nat.zero_le _, Nat.zero_le _⟩ (hpre_of rfl (show hpr_282 d [.inr (.inl (some 13)), .inl z70, .inl z75'] I52 from ⟨by show 1 ≤ d; omega, z70, z75', rfl, ⟨by omega, by omega⟩⟩)) (fun r76 I76 hp76 => ?_)
                  replace hp76 : hpo_282 _ _ _ _ := hpost_of rfl hp76
                  replace hp76 := hp76 z70 z75' rfl
                  replace hp76 := pFr_add ⟨by omega, by omega⟩ ⟨by omega, by omega⟩ hInv52 (fun h => ⟨by omega, by omega⟩) hp76
                  obtain ⟨rfl, hF76⟩ := hp76
                  have hG76 : pFr I I76 := pFr_tr hG52 hF76
                  obtain ⟨-, -, ⟨hI76a, hI76b⟩, ⟨hI76c, hI76d⟩, -, hInv76⟩ := id hG76
                  refine hA_iinc (c := 1) (zs_iinc (k := 1) em235_79 (by decide +kernel)) (by decide +kernel) rfl ⟨Nat.le_of_ble_eq_true rfl, rfl⟩ (by omega) (by omega) (fun z79' hz79' => ?_)
                  show zAt _ _ _ _ _ _ _ _ _ _ [some (.inr (.inl (some 12))), some (.inl a), some (.inl z79'), some (.inl z38)] _ _ _
                  refine hA_goto (zs_goto em235_82 (t := 12) (by decide)) ?_
                  refine hA_fg (L' := [some (.inr (.inl (some 12))), some (.inl a), some (.inl z79'), none]) (by repeat (first | exact trivial | refine And.intro rfl ?_)) ?_
                  exact ih _ (by omega) I76 hG76 z79' (by omega) (by omega) rfl
              · refine hA_const (k := 0) (zs_iconst (v := 0) em235_58 (by decide +kernel)) (by decide +kernel) (fun z58' hz58' => ?_)
                refine hA_zreturn ⟨rfl, em235_59⟩ ⟨Nat.le_refl _, Nat.le_refl _⟩ ⟨by omega, by omega⟩ ?_
                intro a' he
                cases he
                exact ⟨_, rfl, by omega, by omega, hG52⟩
        · refine hA_aload (zs_aload_n em235_28) rfl ?_
          refine hA_callV (as := []) (rest := []) (B' := (0, 0)) (zs_invV (T := TX2) em235_29 zl_283 rfl wd_756 wd_758 wd_2 ((congrFun xo_3 53).trans rfl) xm_13) rfl ⟨_, rfl⟩ (Nat.le_of_ble_eq_true rfl) rfl ⟨Nat.zero_le _, Nat.zero_le _⟩ (hpre_of rfl (show hpr_283 d [.inr (.inl (some 12))] IJ from ⟨by show 1 ≤ d; omega, rfl, ⟨by omega, by omega⟩⟩)) (fun r29 I29 hp29 => ?_)
          replace hp29 : hpo_283 _ _ _ _ := hpost_of rfl hp29
          replace hp29 := hp29 rfl
          obtain ⟨z29, rfl, hz29, rfl⟩ := hp29
          refine hA_const (k := 47) (zs_bipush (v := 47) em235_32 (by decide +kernel)) (by decide +kernel) (fun z32 hz32 => ?_)
          refine hA_icmp (zs_icmpne em235_34 (t := 85) (by decide)) (fun (c34 : ¬ z29.toInt = z32.toInt) => ?_) (fun (c34 : ¬ ¬ z29.toInt = z32.toInt) => ?_)
          · refine hA_const (k := 1) (zs_iconst (v := 1) em235_85 (by decide +kernel)) (by decide +kernel) (fun z85' hz85' => ?_)
            refine hA_zreturn ⟨rfl, em235_86⟩ ⟨Nat.le_refl _, Nat.le_refl _⟩ ⟨by omega, by omega⟩ ?_
            intro a' he
            cases he
            exact ⟨_, rfl, by omega, by omega, hGJ⟩
          · have htk := tokP hInvJ hIJa hIJb
            refine hA_aload (zs_aload_n em235_37) rfl ?_
            refine hA_callV (as := []) (rest := []) (B' := (0, 0)) (zs_invV (T := TX2) em235_38 zl_283 rfl wd_756 wd_758 wd_2 ((congrFun xo_3 53).trans rfl) xm_13) rfl ⟨_, rfl⟩ (Nat.le_of_ble_eq_true rfl) rfl ⟨Nat.zero_le _, Nat.zero_le _⟩ (hpre_of rfl (show hpr_283 d [.inr (.inl (some 12))] IJ from ⟨by show 1 ≤ d; omega, rfl, ⟨by omega, by omega⟩⟩)) (fun r38 I38 hp38 => ?_)
            replace hp38 : hpo_283 _ _ _ _ := hpost_of rfl hp38
            replace hp38 := hp38 rfl
            obtain ⟨z38', rfl, hz38', rfl⟩ := hp38
            refine hA_istore (L' := [some (.inr (.inl (some 12))), some (.inl a), some (.inl i), some (.inl z38')]) (zs_istore_n em235_41) ⟨Nat.le_of_ble_eq_true rfl, rfl⟩ rfl ?_
            refine hA_aload (zs_aload_n em235_42) rfl ?_
            refine hA_iload (zs_iload_n em235_43) rfl ?_
            refine hA_callV (as := [.inl z38']) (rest := []) (B' := (0, 0)) (zs_invV (T := TX2) em235_44 zl_284 rfl wd_768 wd_770 wd_5 ((congrFun xo_3 89).trans rfl) xm_9) rfl ⟨_, rfl⟩ (Nat.le_of_ble_eq_true rfl) rfl ⟨Nat.zero_le _, Nat.zero_le _⟩ (hpre_of rfl (show hpr_284 d _ _ from ⟨by show 3 ≤ d; omega, z38', rfl, ⟨by omega, by omega, hInvJ⟩⟩)) (fun r44 I44 hp44 => ?_)
            replace hp44 : hpo_284 _ _ _ _ := hpost_of rfl hp44
            obtain ⟨z44', rfl, ⟨hz44', rfl⟩ | ⟨hz44', hz44'k, hz44'm, v44', hv44', rfl⟩⟩ := hp44 z38' rfl
            · refine hA_if (zs_ifeq em235_47 (t := 58) (by decide)) (fun (c47'' : z44'.toInt = 0) => ?_) (fun (c47'' : ¬ z44'.toInt = 0) => ?_)
              · refine hA_const (k := 0) (zs_iconst (v := 0) em235_58 (by decide +kernel)) (by decide +kernel) (fun z58'' hz58'' => ?_)
                refine hA_zreturn ⟨rfl, em235_59⟩ ⟨Nat.le_refl _, Nat.le_refl _⟩ ⟨by omega, by omega⟩ ?_
                intro a' he
                cases he
                exact ⟨_, rfl, by omega, by omega, hGJ⟩
              · exfalso
                omega
            · refine hA_if (zs_ifeq em235_47 (t := 58) (by decide)) (fun (c47_3 : z44'.toInt = 0) => ?_) (fun (c47_3 : ¬ z44'.toInt = 0) => ?_)
              · exfalso
                omega
              · refine hA_aload (zs_aload_n em235_50) rfl ?_
                refine hA_iload (zs_iload_n em235_51) rfl ?_
                refine hA_callV (as := [.inl a]) (rest := []) (B' := (0, 0)) (zs_invV (T := TX2) em235_52 zl_268 rfl wd_812 wd_814 wd_16 ((congrFun xo_3 166).trans rfl) xm_236) rfl ⟨_, rfl⟩ (Nat.le_of_ble_eq_true rfl) rfl ⟨Nat.zero_le _, Nat.zero_le _⟩ (hpre_of rfl (show hpr_268 d [.inr (.inl (some 12)), .inl a] (zupd IJ 2 v44') from ⟨a, rfl, by show _ ≤ d; omega, ⟨by omega, by omega, by rw [zf_same]; omega, by rw [zf_same]; omega, by rw [zf_ne (by decide)]; omega, by rw [zf_ne (by decide)]; omega, (zextp _ 2 _ rfl (by decide) hInvJ)⟩⟩)) (fun r52 I52 hp52 => ?_)
                replace hp52 : hpo_268 _ _ _ _ := hpost_of rfl hp52
                replace hp52 := hp52 a rfl
                obtain ⟨z52', rfl, hz52'l, hz52'h, hF52⟩ := hp52
                have hG52 : pFr I I52 := pFr_tr (pFr_at hGJ (by omega) (by omega)) hF52
                obtain ⟨-, -, ⟨hI52a, hI52b⟩, ⟨hI52c, hI52d⟩, -, hInv52⟩ := id hG52
                refine hA_if (zs_ifne em235_55 (t := 60) (by decide)) (fun (c55' : ¬ z52'.toInt = 0) => ?_) (fun (c55' : ¬ ¬ z52'.toInt = 0) => ?_)
                · refine hA_aload (zs_aload_n em235_60) rfl ?_
                  refine hA_getf2 (r := 13) (zs_getf (T := TX2) (M := 10) (ci := 2) (j := 0) em235_61 rfl inX2 (by decide) wd_281 ((congrFun xo_3 12).trans rfl)) ⟨_, rfl, rfl⟩ ?_
                  refine hA_iload (zs_iload_n em235_64) rfl ?_
                  refine hA_const (k := 42) (zs_bipush (v := 42) em235_65 (by decide +kernel)) (by decide +kernel) (fun z65' hz65' => ?_)
                  refine hA_icmp (zs_icmpne em235_67 (t := 74) (by decide)) (fun (c67' : ¬ z38'.toInt = z65'.toInt) => ?_) (fun (c67' : ¬ ¬ z38'.toInt = z65'.toInt) => ?_)
                  · refine hA_const (k := 5) (zs_iconst (v := 5) em235_74 (by decide +kernel)) (by decide +kernel) (fun z74' hz74' => ?_)
                    refine hA_const (k := 0) (zs_iconst (v := 0) em235_75 (by decide +kernel)) (by decide +kernel) (fun z75'' hz75'' => ?_)
                    refine hA_callV (as := [.inl z74', .inl z75'']) (rest := []) (B' := (0, 0)) (zs_invV (T := TX6) em235_76 zl_282 rfl wd_816 wd_159 wd_160 ((congrFun xo_3 153).trans rfl) xm_43) rfl ⟨_, rfl⟩ (Nat.le_of_ble_eq_true rfl) rfl ⟨Nat.zero_le _, Nat.zero_le _⟩ (hpre_of rfl (show hpr_282 d [.inr (.inl (some 13)), .inl z74', .inl z75''] I52 from ⟨by show 1 ≤ d; omega, z74', z75'', rfl, ⟨by omega, by omega⟩⟩)) (fun r76 I76 hp76 => ?_)
                    replace hp76 : hpo_282 _ _ _ _ := hpost_of rfl hp76
                    replace hp76 := hp76 z74' z75'' rfl
                    replace hp76 := pFr_add ⟨by omega, by omega⟩ ⟨by omega, by omega⟩ hInv52 (fun h => ⟨by omega, by omega⟩) hp76
                    obtain ⟨rfl, hF76⟩ := hp76
                    have hG76 : pFr I I76 := pFr_tr hG52 hF76
                    obtain ⟨-, -, ⟨hI76a, hI76b⟩, ⟨hI76c, hI76d⟩, -, hInv76⟩ := id hG76
                    refine hA_iinc (c := 1) (zs_iinc (k := 1) em235_79 (by decide +kernel)) (by decide +kernel) rfl ⟨Nat.le_of_ble_eq_true rfl, rfl⟩ (by omega) (by omega) (fun z79'' hz79'' => ?_)
                    show zAt _ _ _ _ _ _ _ _ _ _ [some (.inr (.inl (some 12))), some (.inl a), some (.inl z79''), some (.inl z38')] _ _ _
                    refine hA_goto (zs_goto em235_82 (t := 12) (by decide)) ?_
                    refine hA_fg (L' := [some (.inr (.inl (some 12))), some (.inl a), some (.inl z79''), none]) (by repeat (first | exact trivial | refine And.intro rfl ?_)) ?_
                    exact ih _ (by omega) I76 hG76 z79'' (by omega) (by omega) rfl
                  · refine hA_const (k := 4) (zs_iconst (v := 4) em235_70 (by decide +kernel)) (by decide +kernel) (fun z70' hz70' => ?_)
                    refine hA_goto (zs_goto em235_71 (t := 75) (by decide)) ?_
                    refine hA_const (k := 0) (zs_iconst (v := 0) em235_75 (by decide +kernel)) (by decide +kernel) (fun z75_3 hz75_3 => ?_)
                    refine hA_callV (as := [.inl z70', .inl z75_3]) (rest := []) (B' := (0, 0)) (zs_invV (T := TX6) em235_76 zl_282 rfl wd_816 wd_159 wd_160 ((congrFun xo_3 153).trans rfl) xm_43) rfl ⟨_, rfl⟩ (Nat.le_of_ble_eq_true rfl) rfl ⟨Nat.zero_le _, Nat.zero_le _⟩ (hpre_of rfl (show hpr_282 d [.inr (.inl (some 13)), .inl z70', .inl z75_3] I52 from ⟨by show 1 ≤ d; omega, z70', z75_3, rfl, ⟨by omega, by omega⟩⟩)) (fun r76 I76 hp76 => ?_)
                    replace hp76 : hpo_282 _ _ _ _ := hpost_of rfl hp76
                    replace hp76 := hp76 z70' z75_3 rfl
                    replace hp76 := pFr_add ⟨by omega, by omega⟩ ⟨by omega, by omega⟩ hInv52 (fun h => ⟨by omega, by omega⟩) hp76
                    obtain ⟨rfl, hF76⟩ := hp76
                    have hG76 : pFr I I76 := pFr_tr hG52 hF76
                    obtain ⟨-, -, ⟨hI76a, hI76b⟩, ⟨hI76c, hI76d⟩, -, hInv76⟩ := id hG76
                    refine hA_iinc (c := 1) (zs_iinc (k := 1) em235_79 (by decide +kernel)) (by decide +kernel) rfl ⟨Nat.le_of_ble_eq_true rfl, rfl⟩ (by omega) (by omega) (fun z79_3 hz79_3 => ?_)
                    show zAt _ _ _ _ _ _ _ _ _ _ [some (.inr (.inl (some 12))), some (.inl a), some (.inl z79_3), some (.inl z38')] _ _ _
                    refine hA_goto (zs_goto em235_82 (t := 12) (by decide)) ?_
                    refine hA_fg (L' := [some (.inr (.inl (some 12))), some (.inl a), some (.inl z79_3), none]) (by repeat (first | exact trivial | refine And.intro rfl ?_)) ?_
                    exact ih _ (by omega) I76 hG76 z79_3 (by omega) (by omega) rfl
                · refine hA_const (k := 0) (zs_iconst (v := 0) em235_58 (by decide +kernel)) (by decide +kernel) (fun z58_3 hz58_3 => ?_)
                  refine hA_zreturn ⟨rfl, em235_59⟩ ⟨Nat.le_refl _, Nat.le_refl _⟩ ⟨by omega, by omega⟩ ?_
                  intro a' he
                  cases he
                  exact ⟨_, rfl, by omega, by omega, hG52⟩
  refine hmet (L := [some (.inr (.inl (some 12))), some (.inl a), none, none]) (by decide) (Nat.le_of_ble_eq_true rfl) hc rfl ?_
  refine hA_aload (zs_aload_n em235_0) rfl ?_
  refine hA_iload (zs_iload_n em235_1) rfl ?_
  refine hA_callV (as := [.inl a]) (rest := []) (B' := (0, 0)) (zs_invV (T := TX2) em235_2 zl_268 rfl wd_812 wd_814 wd_16 ((congrFun xo_3 166).trans rfl) xm_236) rfl ⟨_, rfl⟩ (Nat.le_of_ble_eq_true rfl) rfl ⟨Nat.zero_le _, Nat.zero_le _⟩ (hpre_of rfl (show hpr_268 d [.inr (.inl (some 12)), .inl a] I from ⟨a, rfl, by show _ ≤ d; omega, ⟨by omega, by omega, by omega, by omega, by omega, by omega, hInv⟩⟩)) (fun r2 I2 hp2 => ?_)
  replace hp2 : hpo_268 _ _ _ _ := hpost_of rfl hp2
  replace hp2 := hp2 a rfl
  obtain ⟨z2, rfl, hz2l, hz2h, hF2⟩ := hp2
  have hG2 : pFr I I2 := pFr_tr hG0 hF2
  obtain ⟨-, -, ⟨hI2a, hI2b⟩, ⟨hI2c, hI2d⟩, -, hInv2⟩ := id hG2
  refine hA_if (zs_ifne em235_5 (t := 10) (by decide)) (fun (c5 : ¬ z2.toInt = 0) => ?_) (fun (c5 : ¬ ¬ z2.toInt = 0) => ?_)
  · refine hA_const (k := 0) (zs_iconst (v := 0) em235_10 (by decide +kernel)) (by decide +kernel) (fun z10 hz10 => ?_)
    refine hA_istore (L' := [some (.inr (.inl (some 12))), some (.inl a), some (.inl z10), none]) (zs_istore_n em235_11) ⟨Nat.le_of_ble_eq_true rfl, rfl⟩ rfl ?_
    exact loop _ I2 hG2 z10 (by omega) (by omega) rfl
  · refine hA_const (k := 0) (zs_iconst (v := 0) em235_8 (by decide +kernel)) (by decide +kernel) (fun z8 hz8 => ?_)
    refine hA_zreturn ⟨rfl, em235_9⟩ ⟨Nat.le_refl _, Nat.le_refl _⟩ ⟨by omega, by omega⟩ ?_
    intro a' he
    cases he
    exact ⟨_, rfl, by omega, by omega, hG2⟩
theorem em234_0 : decode prog_4_method_16_code 0 = .ok (.aload_n 0, 1) := by decide +kernel
theorem em234_1 : decode prog_4_method_16_code 1 = .ok (.iload_n 1, 1) := by decide +kernel
theorem em234_2 : decode prog_4_method_16_code 2 = .ok (.invokevirtual 163, 3) := by decide +kernel
theorem em234_5 : decode prog_4_method_16_code 5 = .ok (.ifCond .ne 5, 3) := by decide +kernel
theorem em234_8 : decode prog_4_method_16_code 8 = .ok (.iconst 0, 1) := by decide +kernel
theorem em234_9 : decode prog_4_method_16_code 9 = .ok (.ireturn, 1) := by decide +kernel
theorem em234_10 : decode prog_4_method_16_code 10 = .ok (.iconst 0, 1) := by decide +kernel
theorem em234_11 : decode prog_4_method_16_code 11 = .ok (.istore_n 2, 1) := by decide +kernel
theorem em234_12 : decode prog_4_method_16_code 12 = .ok (.iload_n 2, 1) := by decide +kernel
theorem em234_13 : decode prog_4_method_16_code 13 = .ok (.sipush 400, 3) := by decide +kernel
theorem em234_16 : decode prog_4_method_16_code 16 = .ok (.if_icmp .ge 69, 3) := by decide +kernel
theorem em234_19 : decode prog_4_method_16_code 19 = .ok (.aload_n 0, 1) := by decide +kernel
theorem em234_20 : decode prog_4_method_16_code 20 = .ok (.invokevirtual 53, 3) := by decide +kernel
theorem em234_23 : decode prog_4_method_16_code 23 = .ok (.bipush 43, 2) := by decide +kernel
theorem em234_25 : decode prog_4_method_16_code 25 = .ok (.if_icmp .eq 12, 3) := by decide +kernel
theorem em234_28 : decode prog_4_method_16_code 28 = .ok (.aload_n 0, 1) := by decide +kernel
theorem em234_29 : decode prog_4_method_16_code 29 = .ok (.invokevirtual 53, 3) := by decide +kernel
theorem em234_32 : decode prog_4_method_16_code 32 = .ok (.bipush 45, 2) := by decide +kernel
theorem em234_34 : decode prog_4_method_16_code 34 = .ok (.if_icmp .ne 51, 3) := by decide +kernel
theorem em234_37 : decode prog_4_method_16_code 37 = .ok (.aload_n 0, 1) := by decide +kernel
theorem em234_38 : decode prog_4_method_16_code 38 = .ok (.invokevirtual 53, 3) := by decide +kernel
theorem em234_41 : decode prog_4_method_16_code 41 = .ok (.istore_n 3, 1) := by decide +kernel
theorem em234_42 : decode prog_4_method_16_code 42 = .ok (.aload_n 0, 1) := by decide +kernel
theorem em234_43 : decode prog_4_method_16_code 43 = .ok (.iload_n 3, 1) := by decide +kernel
theorem em234_44 : decode prog_4_method_16_code 44 = .ok (.invokevirtual 89, 3) := by decide +kernel
theorem em234_47 : decode prog_4_method_16_code 47 = .ok (.ifCond .eq 11, 3) := by decide +kernel
theorem em234_50 : decode prog_4_method_16_code 50 = .ok (.aload_n 0, 1) := by decide +kernel
theorem em234_51 : decode prog_4_method_16_code 51 = .ok (.iload_n 1, 1) := by decide +kernel
theorem em234_52 : decode prog_4_method_16_code 52 = .ok (.invokevirtual 163, 3) := by decide +kernel
theorem em234_55 : decode prog_4_method_16_code 55 = .ok (.ifCond .ne 5, 3) := by decide +kernel
theorem em234_58 : decode prog_4_method_16_code 58 = .ok (.iconst 0, 1) := by decide +kernel
theorem em234_59 : decode prog_4_method_16_code 59 = .ok (.ireturn, 1) := by decide +kernel
theorem em234_60 : decode prog_4_method_16_code 60 = .ok (.aload_n 0, 1) := by decide +kernel
theorem em234_61 : decode prog_4_method_16_code 61 = .ok (.getfield 12, 3) := by decide +kernel
theorem em234_64 : decode prog_4_method_16_code 64 = .ok (.iload_n 3, 1) := by decide +kernel
theorem em234_65 : decode prog_4_method_16_code 65 = .ok (.bipush 43, 2) := by decide +kernel
theorem em234_67 : decode prog_4_method_16_code 67 = .ok (.if_icmp .ne 7, 3) := by decide +kernel
theorem em234_70 : decode prog_4_method_16_code 70 = .ok (.iconst 2, 1) := by decide +kernel
theorem em234_71 : decode prog_4_method_16_code 71 = .ok (.goto 4, 3) := by decide +kernel
theorem em234_74 : decode prog_4_method_16_code 74 = .ok (.iconst 3, 1) := by decide +kernel
theorem em234_75 : decode prog_4_method_16_code 75 = .ok (.iconst 0, 1) := by decide +kernel
theorem em234_76 : decode prog_4_method_16_code 76 = .ok (.invokevirtual 153, 3) := by decide +kernel
theorem em234_79 : decode prog_4_method_16_code 79 = .ok (.iinc 2 1, 3) := by decide +kernel
theorem em234_82 : decode prog_4_method_16_code 82 = .ok (.goto (-70), 3) := by decide +kernel
theorem em234_85 : decode prog_4_method_16_code 85 = .ok (.iconst 1, 1) := by decide +kernel
theorem em234_86 : decode prog_4_method_16_code 86 = .ok (.ireturn, 1) := by decide +kernel
set_option maxRecDepth 10000 in
set_option maxHeartbeats 4000000 in
theorem hM_266 : zOKx 266 := by
  intro d hc as I q h hq
  have h : hpr_266 (d + 1) as I := h
  obtain ⟨a, rfl, hd, hpre⟩ := h
  cases (show some _ = some q from hq)
  obtain ⟨hp0, hp1, h2a, h2b, h4a, h4b, hInv⟩ := hpre
  have hG0 := pFr_rf ⟨h2a, h2b⟩ h4b hInv
  have loop : ∀ (n : Nat) (IJ : zI) (hGJ : pFr I IJ) (i : Int32) (hi : 0 ≤ i.toInt) (hi2 : i.toInt ≤ 400), (400 - i.toInt).toNat = n → zAt zG0 PZ zbd zpre zpost (d, (zbd 266).1, (zbd 266).2) prog_4_method_16_code "CapitalCase$Parser" (zRet prog_4_method_16_code (some .boolean) (zbd 266) (hpost 266 [.inr (.inl (some 12)), .inl a] I)) 12 [some (.inr (.inl (some 12))), some (.inl a), some (.inl i), none] [] IJ (0, 0) := by
    intro n
    induction n using Nat.strongRecOn with
    | ind n ih =>
      intro IJ hGJ i hi hi2 hn
      obtain ⟨-, -, ⟨hIJa, hIJb⟩, ⟨hIJc, hIJd⟩, -, hInvJ⟩ := id hGJ
      refine hA_iload (zs_iload_n em234_12) rfl ?_
      refine hA_const (k := 400) (zs_sipush (v := 400) em234_13 (by decide +kernel)) (by decide +kernel) (fun z13 hz13 => ?_)
      refine hA_icmp (zs_icmpge em234_16 (t := 85) (by decide)) (fun (c16 : z13.toInt ≤ i.toInt) => ?_) (fun (c16 : ¬ z13.toInt ≤ i.toInt) => ?_)
      · refine hA_const (k := 1) (zs_iconst (v := 1) em234_85 (by decide +kernel)) (by decide +kernel) (fun z85 hz85 => ?_)
        refine hA_zreturn ⟨rfl, em234_86⟩ ⟨Nat.le_refl _, Nat.le_refl _⟩ ⟨by omega, by omega⟩ ?_
        intro a' he
        cases he
        exact ⟨_, rfl, by omega, by omega, hGJ⟩
      · refine hA_aload (zs_aload_n em234_19) rfl ?_
        refine hA_callV (as := []) (rest := []) (B' := (0, 0)) (zs_invV (T := TX2) em234_20 zl_283 rfl wd_756 wd_758 wd_2 ((congrFun xo_3 53).trans rfl) xm_13) rfl ⟨_, rfl⟩ (Nat.le_of_ble_eq_true rfl) rfl ⟨Nat.zero_le _, Nat.zero_le _⟩ (hpre_of rfl (show hpr_283 d [.inr (.inl (some 12))] IJ from ⟨by show 1 ≤ d; omega, rfl, ⟨by omega, by omega⟩⟩)) (fun r20 I20 hp20 => ?_)
        replace hp20 : hpo_283 _ _ _ _ := hpost_of rfl hp20
        replace hp20 := hp20 rfl
        obtain ⟨z20, rfl, hz20, rfl⟩ := hp20
        refine hA_const (k := 43) (zs_bipush (v := 43) em234_23 (by decide +kernel)) (by decide +kernel) (fun z23 hz23 => ?_)
        refine hA_icmp (zs_icmpeq em234_25 (t := 37) (by decide)) (fun (c25 : z20.toInt = z23.toInt) => ?_) (fun (c25 : ¬ z20.toInt = z23.toInt) => ?_)
        · have htk := tokP hInvJ hIJa hIJb
          refine hA_aload (zs_aload_n em234_37) rfl ?_
          refine hA_callV (as := []) (rest := []) (B' := (0, 0)) (zs_invV (T := TX2) em234_38 zl_283 rfl wd_756 wd_758 wd_2 ((congrFun xo_3 53).trans rfl) xm_13) rfl ⟨_, rfl⟩ (Nat.le_of_ble_eq_true rfl) rfl ⟨Nat.zero_le _, Nat.zero_le _⟩ (hpre_of rfl (show hpr_283 d [.inr (.inl (some 12))] IJ from ⟨by show 1 ≤ d; omega, rfl, ⟨by omega, by omega⟩⟩)) (fun r38 I38 hp38 => ?_)
          replace hp38 : hpo_283 _ _ _ _ := hpost_of rfl hp38
          replace hp38 := hp38 rfl
          obtain ⟨z38, rfl, hz38, rfl⟩ := hp38
          refine hA_istore (L' := [some (.inr (.inl (some 12))), some (.inl a), some (.inl i), some (.inl z38)]) (zs_istore_n em234_41) ⟨Nat.le_of_ble_eq_true rfl, rfl⟩ rfl ?_
          refine hA_aload (zs_aload_n em234_42) rfl ?_
          refine hA_iload (zs_iload_n em234_43) rfl ?_
          refine hA_callV (as := [.inl z38]) (rest := []) (B' := (0, 0)) (zs_invV (T := TX2) em234_44 zl_284 rfl wd_768 wd_770 wd_5 ((congrFun xo_3 89).trans rfl) xm_9) rfl ⟨_, rfl⟩ (Nat.le_of_ble_eq_true rfl) rfl ⟨Nat.zero_le _, Nat.zero_le _⟩ (hpre_of rfl (show hpr_284 d _ _ from ⟨by show 3 ≤ d; omega, z38, rfl, ⟨by omega, by omega, hInvJ⟩⟩)) (fun r44 I44 hp44 => ?_)
          replace hp44 : hpo_284 _ _ _ _ := hpost_of rfl hp44
          obtain ⟨z44, rfl, ⟨hz44, rfl⟩ | ⟨hz44, hz44k, hz44m, v44, hv44, rfl⟩⟩ := hp44 z38 rfl
          · refine hA_if (zs_ifeq em234_47 (t := 58) (by decide)) (fun (c47 : z44.toInt = 0) => ?_) (fun (c47 : ¬ z44.toInt = 0) => ?_)
            · refine hA_const (k := 0) (zs_iconst (v := 0) em234_58 (by decide +kernel)) (by decide +kernel) (fun z58 hz58 => ?_)
              refine hA_zreturn ⟨rfl, em234_59⟩ ⟨Nat.le_refl _, Nat.le_refl _⟩ ⟨by omega, by omega⟩ ?_
              intro a' he
              cases he
              exact ⟨_, rfl, by omega, by omega, hGJ⟩
            · exfalso
              omega
          · refine hA_if (zs_ifeq em234_47 (t := 58) (by decide)) (fun (c47' : z44.toInt = 0) => ?_) (fun (c47' : ¬ z44.toInt = 0) => ?_)
            · exfalso
              omega
            · refine hA_aload (zs_aload_n em234_50) rfl ?_
              refine hA_iload (zs_iload_n em234_51) rfl ?_
              refine hA_callV (as := [.inl a]) (rest := []) (B' := (0, 0)) (zs_invV (T := TX2) em234_52 zl_267 rfl wd_808 wd_810 wd_15 ((congrFun xo_3 163).trans rfl) xm_235) rfl ⟨_, rfl⟩ (Nat.le_of_ble_eq_true rfl) rfl ⟨Nat.zero_le _, Nat.zero_le _⟩ (hpre_of rfl (show hpr_267 d [.inr (.inl (some 12)), .inl a] (zupd IJ 2 v44) from ⟨a, rfl, by show _ ≤ d; omega, ⟨by omega, by omega, by rw [zf_same]; omega, by rw [zf_same]; omega, by rw [zf_ne (by decide)]; omega, by rw [zf_ne (by decide)]; omega, (zextp _ 2 _ rfl (by decide) hInvJ)⟩⟩)) (fun r52 I52 hp52 => ?_)
              replace hp52 : hpo_267 _ _ _ _ := hpost_of rfl hp52
              replace hp52 := hp52 a rfl
              obtain ⟨z52, rfl, hz52l, hz52h, hF52⟩ := hp52
              have hG52 : pFr I I52 := pFr_tr (pFr_at hGJ (by omega) (by omega)) hF52
              obtain ⟨-, -, ⟨hI52a, hI52b⟩, ⟨hI52c, hI52d⟩, -, hInv52⟩ := id hG52
              refine hA_if (zs_ifne em234_55 (t := 60) (by decide)) (fun (c55 : ¬ z52.toInt = 0) => ?_) (fun (c55 : ¬ ¬ z52.toInt = 0) => ?_)
              · refine hA_aload (zs_aload_n em234_60) rfl ?_
                refine hA_getf2 (r := 13) (zs_getf (T := TX2) (M := 10) (ci := 2) (j := 0) em234_61 rfl inX2 (by decide) wd_281 ((congrFun xo_3 12).trans rfl)) ⟨_, rfl, rfl⟩ ?_
                refine hA_iload (zs_iload_n em234_64) rfl ?_
                refine hA_const (k := 43) (zs_bipush (v := 43) em234_65 (by decide +kernel)) (by decide +kernel) (fun z65 hz65 => ?_)
                refine hA_icmp (zs_icmpne em234_67 (t := 74) (by decide)) (fun (c67 : ¬ z38.toInt = z65.toInt) => ?_) (fun (c67 : ¬ ¬ z38.toInt = z65.toInt) => ?_)
                · refine hA_const (k := 3) (zs_iconst (v := 3) em234_74 (by decide +kernel)) (by decide +kernel) (fun z74 hz74 => ?_)
                  refine hA_const (k := 0) (zs_iconst (v := 0) em234_75 (by decide +kernel)) (by decide +kernel) (fun z75 hz75 => ?_)
                  refine hA_callV (as := [.inl z74, .inl z75]) (rest := []) (B' := (0, 0)) (zs_invV (T := TX6) em234_76 zl_282 rfl wd_816 wd_159 wd_160 ((congrFun xo_3 153).trans rfl) xm_43) rfl ⟨_, rfl⟩ (Nat.le_of_ble_eq_true rfl) rfl ⟨Nat.zero_le _, Nat.zero_le _⟩ (hpre_of rfl (show hpr_282 d [.inr (.inl (some 13)), .inl z74, .inl z75] I52 from ⟨by show 1 ≤ d; omega, z74, z75, rfl, ⟨by omega, by omega⟩⟩)) (fun r76 I76 hp76 => ?_)
                  replace hp76 : hpo_282 _ _ _ _ := hpost_of rfl hp76
                  replace hp76 := hp76 z74 z75 rfl
                  replace hp76 := pFr_add ⟨by omega, by omega⟩ ⟨by omega, by omega⟩ hInv52 (fun h => ⟨by omega, by omega⟩) hp76
                  obtain ⟨rfl, hF76⟩ := hp76
                  have hG76 : pFr I I76 := pFr_tr hG52 hF76
                  obtain ⟨-, -, ⟨hI76a, hI76b⟩, ⟨hI76c, hI76d⟩, -, hInv76⟩ := id hG76
                  refine hA_iinc (c := 1) (zs_iinc (k := 1) em234_79 (by decide +kernel)) (by decide +kernel) rfl ⟨Nat.le_of_ble_eq_true rfl, rfl⟩ (by omega) (by omega) (fun z79 hz79 => ?_)
                  show zAt _ _ _ _ _ _ _ _ _ _ [some (.inr (.inl (some 12))), some (.inl a), some (.inl z79), some (.inl z38)] _ _ _
                  refine hA_goto (zs_goto em234_82 (t := 12) (by decide)) ?_
                  refine hA_fg (L' := [some (.inr (.inl (some 12))), some (.inl a), some (.inl z79), none]) (by repeat (first | exact trivial | refine And.intro rfl ?_)) ?_
                  exact ih _ (by omega) I76 hG76 z79 (by omega) (by omega) rfl
                · refine hA_const (k := 2) (zs_iconst (v := 2) em234_70 (by decide +kernel)) (by decide +kernel) (fun z70 hz70 => ?_)
                  refine hA_goto (zs_goto em234_71 (t := 75) (by decide)) ?_
                  refine hA_const (k := 0) (zs_iconst (v := 0) em234_75 (by decide +kernel)) (by decide +kernel) (fun z75' hz75' => ?_)
                  refine hA_callV (as := [.inl z70, .inl z75']) (rest := []) (B' := (0, 0)) (zs_invV (T := TX6) em234_76 zl_282 rfl wd_816 wd_159 wd_160 ((congrFun xo_3 153).trans rfl) xm_43) rfl ⟨_, rfl⟩ (Nat.le_of_ble_eq_true rfl) rfl ⟨Nat.zero_le _, Nat.zero_le _⟩ (hpre_of rfl (show hpr_282 d [.inr (.inl (some 13)), .inl z70, .inl z75'] I52 from ⟨by show 1 ≤ d; omega, z70, z75', rfl, ⟨by omega, by omega⟩⟩)) (fun r76 I76 hp76 => ?_)
                  replace hp76 : hpo_282 _ _ _ _ := hpost_of rfl hp76
                  replace hp76 := hp76 z70 z75' rfl
                  replace hp76 := pFr_add ⟨by omega, by omega⟩ ⟨by omega, by omega⟩ hInv52 (fun h => ⟨by omega, by omega⟩) hp76
                  obtain ⟨rfl, hF76⟩ := hp76
                  have hG76 : pFr I I76 := pFr_tr hG52 hF76
                  obtain ⟨-, -, ⟨hI76a, hI76b⟩, ⟨hI76c, hI76d⟩, -, hInv76⟩ := id hG76
                  refine hA_iinc (c := 1) (zs_iinc (k := 1) em234_79 (by decide +kernel)) (by decide +kernel) rfl ⟨Nat.le_of_ble_eq_true rfl, rfl⟩ (by omega) (by omega) (fun z79' hz79' => ?_)
                  show zAt _ _ _ _ _ _ _ _ _ _ [some (.inr (.inl (some 12))), some (.inl a), some (.inl z79'), some (.inl z38)] _ _ _
                  refine hA_goto (zs_goto em234_82 (t := 12) (by decide)) ?_
                  refine hA_fg (L' := [some (.inr (.inl (some 12))), some (.inl a), some (.inl z79'), none]) (by repeat (first | exact trivial | refine And.intro rfl ?_)) ?_
                  exact ih _ (by omega) I76 hG76 z79' (by omega) (by omega) rfl
              · refine hA_const (k := 0) (zs_iconst (v := 0) em234_58 (by decide +kernel)) (by decide +kernel) (fun z58' hz58' => ?_)
                refine hA_zreturn ⟨rfl, em234_59⟩ ⟨Nat.le_refl _, Nat.le_refl _⟩ ⟨by omega, by omega⟩ ?_
                intro a' he
                cases he
                exact ⟨_, rfl, by omega, by omega, hG52⟩
        · refine hA_aload (zs_aload_n em234_28) rfl ?_
          refine hA_callV (as := []) (rest := []) (B' := (0, 0)) (zs_invV (T := TX2) em234_29 zl_283 rfl wd_756 wd_758 wd_2 ((congrFun xo_3 53).trans rfl) xm_13) rfl ⟨_, rfl⟩ (Nat.le_of_ble_eq_true rfl) rfl ⟨Nat.zero_le _, Nat.zero_le _⟩ (hpre_of rfl (show hpr_283 d [.inr (.inl (some 12))] IJ from ⟨by show 1 ≤ d; omega, rfl, ⟨by omega, by omega⟩⟩)) (fun r29 I29 hp29 => ?_)
          replace hp29 : hpo_283 _ _ _ _ := hpost_of rfl hp29
          replace hp29 := hp29 rfl
          obtain ⟨z29, rfl, hz29, rfl⟩ := hp29
          refine hA_const (k := 45) (zs_bipush (v := 45) em234_32 (by decide +kernel)) (by decide +kernel) (fun z32 hz32 => ?_)
          refine hA_icmp (zs_icmpne em234_34 (t := 85) (by decide)) (fun (c34 : ¬ z29.toInt = z32.toInt) => ?_) (fun (c34 : ¬ ¬ z29.toInt = z32.toInt) => ?_)
          · refine hA_const (k := 1) (zs_iconst (v := 1) em234_85 (by decide +kernel)) (by decide +kernel) (fun z85' hz85' => ?_)
            refine hA_zreturn ⟨rfl, em234_86⟩ ⟨Nat.le_refl _, Nat.le_refl _⟩ ⟨by omega, by omega⟩ ?_
            intro a' he
            cases he
            exact ⟨_, rfl, by omega, by omega, hGJ⟩
          · have htk := tokP hInvJ hIJa hIJb
            refine hA_aload (zs_aload_n em234_37) rfl ?_
            refine hA_callV (as := []) (rest := []) (B' := (0, 0)) (zs_invV (T := TX2) em234_38 zl_283 rfl wd_756 wd_758 wd_2 ((congrFun xo_3 53).trans rfl) xm_13) rfl ⟨_, rfl⟩ (Nat.le_of_ble_eq_true rfl) rfl ⟨Nat.zero_le _, Nat.zero_le _⟩ (hpre_of rfl (show hpr_283 d [.inr (.inl (some 12))] IJ from ⟨by show 1 ≤ d; omega, rfl, ⟨by omega, by omega⟩⟩)) (fun r38 I38 hp38 => ?_)
            replace hp38 : hpo_283 _ _ _ _ := hpost_of rfl hp38
            replace hp38 := hp38 rfl
            obtain ⟨z38', rfl, hz38', rfl⟩ := hp38
            refine hA_istore (L' := [some (.inr (.inl (some 12))), some (.inl a), some (.inl i), some (.inl z38')]) (zs_istore_n em234_41) ⟨Nat.le_of_ble_eq_true rfl, rfl⟩ rfl ?_
            refine hA_aload (zs_aload_n em234_42) rfl ?_
            refine hA_iload (zs_iload_n em234_43) rfl ?_
            refine hA_callV (as := [.inl z38']) (rest := []) (B' := (0, 0)) (zs_invV (T := TX2) em234_44 zl_284 rfl wd_768 wd_770 wd_5 ((congrFun xo_3 89).trans rfl) xm_9) rfl ⟨_, rfl⟩ (Nat.le_of_ble_eq_true rfl) rfl ⟨Nat.zero_le _, Nat.zero_le _⟩ (hpre_of rfl (show hpr_284 d _ _ from ⟨by show 3 ≤ d; omega, z38', rfl, ⟨by omega, by omega, hInvJ⟩⟩)) (fun r44 I44 hp44 => ?_)
            replace hp44 : hpo_284 _ _ _ _ := hpost_of rfl hp44
            obtain ⟨z44', rfl, ⟨hz44', rfl⟩ | ⟨hz44', hz44'k, hz44'm, v44', hv44', rfl⟩⟩ := hp44 z38' rfl
            · refine hA_if (zs_ifeq em234_47 (t := 58) (by decide)) (fun (c47'' : z44'.toInt = 0) => ?_) (fun (c47'' : ¬ z44'.toInt = 0) => ?_)
              · refine hA_const (k := 0) (zs_iconst (v := 0) em234_58 (by decide +kernel)) (by decide +kernel) (fun z58'' hz58'' => ?_)
                refine hA_zreturn ⟨rfl, em234_59⟩ ⟨Nat.le_refl _, Nat.le_refl _⟩ ⟨by omega, by omega⟩ ?_
                intro a' he
                cases he
                exact ⟨_, rfl, by omega, by omega, hGJ⟩
              · exfalso
                omega
            · refine hA_if (zs_ifeq em234_47 (t := 58) (by decide)) (fun (c47_3 : z44'.toInt = 0) => ?_) (fun (c47_3 : ¬ z44'.toInt = 0) => ?_)
              · exfalso
                omega
              · refine hA_aload (zs_aload_n em234_50) rfl ?_
                refine hA_iload (zs_iload_n em234_51) rfl ?_
                refine hA_callV (as := [.inl a]) (rest := []) (B' := (0, 0)) (zs_invV (T := TX2) em234_52 zl_267 rfl wd_808 wd_810 wd_15 ((congrFun xo_3 163).trans rfl) xm_235) rfl ⟨_, rfl⟩ (Nat.le_of_ble_eq_true rfl) rfl ⟨Nat.zero_le _, Nat.zero_le _⟩ (hpre_of rfl (show hpr_267 d [.inr (.inl (some 12)), .inl a] (zupd IJ 2 v44') from ⟨a, rfl, by show _ ≤ d; omega, ⟨by omega, by omega, by rw [zf_same]; omega, by rw [zf_same]; omega, by rw [zf_ne (by decide)]; omega, by rw [zf_ne (by decide)]; omega, (zextp _ 2 _ rfl (by decide) hInvJ)⟩⟩)) (fun r52 I52 hp52 => ?_)
                replace hp52 : hpo_267 _ _ _ _ := hpost_of rfl hp52
                replace hp52 := hp52 a rfl
                obtain ⟨z52', rfl, hz52'l, hz52'h, hF52⟩ := hp52
                have hG52 : pFr I I52 := pFr_tr (pFr_at hGJ (by omega) (by omega)) hF52
                obtain ⟨-, -, ⟨hI52a, hI52b⟩, ⟨hI52c, hI52d⟩, -, hInv52⟩ := id hG52
                refine hA_if (zs_ifne em234_55 (t := 60) (by decide)) (fun (c55' : ¬ z52'.toInt = 0) => ?_) (fun (c55' : ¬ ¬ z52'.toInt = 0) => ?_)
                · refine hA_aload (zs_aload_n em234_60) rfl ?_
                  refine hA_getf2 (r := 13) (zs_getf (T := TX2) (M := 10) (ci := 2) (j := 0) em234_61 rfl inX2 (by decide) wd_281 ((congrFun xo_3 12).trans rfl)) ⟨_, rfl, rfl⟩ ?_
                  refine hA_iload (zs_iload_n em234_64) rfl ?_
                  refine hA_const (k := 43) (zs_bipush (v := 43) em234_65 (by decide +kernel)) (by decide +kernel) (fun z65' hz65' => ?_)
                  refine hA_icmp (zs_icmpne em234_67 (t := 74) (by decide)) (fun (c67' : ¬ z38'.toInt = z65'.toInt) => ?_) (fun (c67' : ¬ ¬ z38'.toInt = z65'.toInt) => ?_)
                  · refine hA_const (k := 3) (zs_iconst (v := 3) em234_74 (by decide +kernel)) (by decide +kernel) (fun z74' hz74' => ?_)
                    refine hA_const (k := 0) (zs_iconst (v := 0) em234_75 (by decide +kernel)) (by decide +kernel) (fun z75'' hz75'' => ?_)
                    refine hA_callV (as := [.inl z74', .inl z75'']) (rest := []) (B' := (0, 0)) (zs_invV (T := TX6) em234_76 zl_282 rfl wd_816 wd_159 wd_160 ((congrFun xo_3 153).trans rfl) xm_43) rfl ⟨_, rfl⟩ (Nat.le_of_ble_eq_true rfl) rfl ⟨Nat.zero_le _, Nat.zero_le _⟩ (hpre_of rfl (show hpr_282 d [.inr (.inl (some 13)), .inl z74', .inl z75''] I52 from ⟨by show 1 ≤ d; omega, z74', z75'', rfl, ⟨by omega, by omega⟩⟩)) (fun r76 I76 hp76 => ?_)
                    replace hp76 : hpo_282 _ _ _ _ := hpost_of rfl hp76
                    replace hp76 := hp76 z74' z75'' rfl
                    replace hp76 := pFr_add ⟨by omega, by omega⟩ ⟨by omega, by omega⟩ hInv52 (fun h => ⟨by omega, by omega⟩) hp76
                    obtain ⟨rfl, hF76⟩ := hp76
                    have hG76 : pFr I I76 := pFr_tr hG52 hF76
                    obtain ⟨-, -, ⟨hI76a, hI76b⟩, ⟨hI76c, hI76d⟩, -, hInv76⟩ := id hG76
                    refine hA_iinc (c := 1) (zs_iinc (k := 1) em234_79 (by decide +kernel)) (by decide +kernel) rfl ⟨Nat.le_of_ble_eq_true rfl, rfl⟩ (by omega) (by omega) (fun z79'' hz79'' => ?_)
                    show zAt _ _ _ _ _ _ _ _ _ _ [some (.inr (.inl (some 12))), some (.inl a), some (.inl z79''), some (.inl z38')] _ _ _
                    refine hA_goto (zs_goto em234_82 (t := 12) (by decide)) ?_
                    refine hA_fg (L' := [some (.inr (.inl (some 12))), some (.inl a), some (.inl z79''), none]) (by repeat (first | exact trivial | refine And.intro rfl ?_)) ?_
                    exact ih _ (by omega) I76 hG76 z79'' (by omega) (by omega) rfl
                  · refine hA_const (k := 2) (zs_iconst (v := 2) em234_70 (by decide +kernel)) (by decide +kernel) (fun z70' hz70' => ?_)
                    refine hA_goto (zs_goto em234_71 (t := 75) (by decide)) ?_
                    refine hA_const (k := 0) (zs_iconst (v := 0) em234_75 (by decide +kernel)) (by decide +kernel) (fun z75_3 hz75_3 => ?_)
                    refine hA_callV (as := [.inl z70', .inl z75_3]) (rest := []) (B' := (0, 0)) (zs_invV (T := TX6) em234_76 zl_282 rfl wd_816 wd_159 wd_160 ((congrFun xo_3 153).trans rfl) xm_43) rfl ⟨_, rfl⟩ (Nat.le_of_ble_eq_true rfl) rfl ⟨Nat.zero_le _, Nat.zero_le _⟩ (hpre_of rfl (show hpr_282 d [.inr (.inl (some 13)), .inl z70', .inl z75_3] I52 from ⟨by show 1 ≤ d; omega, z70', z75_3, rfl, ⟨by omega, by omega⟩⟩)) (fun r76 I76 hp76 => ?_)
                    replace hp76 : hpo_282 _ _ _ _ := hpost_of rfl hp76
                    replace hp76 := hp76 z70' z75_3 rfl
                    replace hp76 := pFr_add ⟨by omega, by omega⟩ ⟨by omega, by omega⟩ hInv52 (fun h => ⟨by omega, by omega⟩) hp76
                    obtain ⟨rfl, hF76⟩ := hp76
                    have hG76 : pFr I I76 := pFr_tr hG52 hF76
                    obtain ⟨-, -, ⟨hI76a, hI76b⟩, ⟨hI76c, hI76d⟩, -, hInv76⟩ := id hG76
                    refine hA_iinc (c := 1) (zs_iinc (k := 1) em234_79 (by decide +kernel)) (by decide +kernel) rfl ⟨Nat.le_of_ble_eq_true rfl, rfl⟩ (by omega) (by omega) (fun z79_3 hz79_3 => ?_)
                    show zAt _ _ _ _ _ _ _ _ _ _ [some (.inr (.inl (some 12))), some (.inl a), some (.inl z79_3), some (.inl z38')] _ _ _
                    refine hA_goto (zs_goto em234_82 (t := 12) (by decide)) ?_
                    refine hA_fg (L' := [some (.inr (.inl (some 12))), some (.inl a), some (.inl z79_3), none]) (by repeat (first | exact trivial | refine And.intro rfl ?_)) ?_
                    exact ih _ (by omega) I76 hG76 z79_3 (by omega) (by omega) rfl
                · refine hA_const (k := 0) (zs_iconst (v := 0) em234_58 (by decide +kernel)) (by decide +kernel) (fun z58_3 hz58_3 => ?_)
                  refine hA_zreturn ⟨rfl, em234_59⟩ ⟨Nat.le_refl _, Nat.le_refl _⟩ ⟨by omega, by omega⟩ ?_
                  intro a' he
                  cases he
                  exact ⟨_, rfl, by omega, by omega, hG52⟩
  refine hmet (L := [some (.inr (.inl (some 12))), some (.inl a), none, none]) (by decide) (Nat.le_of_ble_eq_true rfl) hc rfl ?_
  refine hA_aload (zs_aload_n em234_0) rfl ?_
  refine hA_iload (zs_iload_n em234_1) rfl ?_
  refine hA_callV (as := [.inl a]) (rest := []) (B' := (0, 0)) (zs_invV (T := TX2) em234_2 zl_267 rfl wd_808 wd_810 wd_15 ((congrFun xo_3 163).trans rfl) xm_235) rfl ⟨_, rfl⟩ (Nat.le_of_ble_eq_true rfl) rfl ⟨Nat.zero_le _, Nat.zero_le _⟩ (hpre_of rfl (show hpr_267 d [.inr (.inl (some 12)), .inl a] I from ⟨a, rfl, by show _ ≤ d; omega, ⟨by omega, by omega, by omega, by omega, by omega, by omega, hInv⟩⟩)) (fun r2 I2 hp2 => ?_)
  replace hp2 : hpo_267 _ _ _ _ := hpost_of rfl hp2
  replace hp2 := hp2 a rfl
  obtain ⟨z2, rfl, hz2l, hz2h, hF2⟩ := hp2
  have hG2 : pFr I I2 := pFr_tr hG0 hF2
  obtain ⟨-, -, ⟨hI2a, hI2b⟩, ⟨hI2c, hI2d⟩, -, hInv2⟩ := id hG2
  refine hA_if (zs_ifne em234_5 (t := 10) (by decide)) (fun (c5 : ¬ z2.toInt = 0) => ?_) (fun (c5 : ¬ ¬ z2.toInt = 0) => ?_)
  · refine hA_const (k := 0) (zs_iconst (v := 0) em234_10 (by decide +kernel)) (by decide +kernel) (fun z10 hz10 => ?_)
    refine hA_istore (L' := [some (.inr (.inl (some 12))), some (.inl a), some (.inl z10), none]) (zs_istore_n em234_11) ⟨Nat.le_of_ble_eq_true rfl, rfl⟩ rfl ?_
    exact loop _ I2 hG2 z10 (by omega) (by omega) rfl
  · refine hA_const (k := 0) (zs_iconst (v := 0) em234_8 (by decide +kernel)) (by decide +kernel) (fun z8 hz8 => ?_)
    refine hA_zreturn ⟨rfl, em234_9⟩ ⟨Nat.le_refl _, Nat.le_refl _⟩ ⟨by omega, by omega⟩ ?_
    intro a' he
    cases he
    exact ⟨_, rfl, by omega, by omega, hG2⟩
