theorem em227_0 : decode prog_14_method_34_code 0 = .ok (.aload_n 0, 1) := by decide +kernel
theorem em227_1 : decode prog_14_method_34_code 1 = .ok (.getfield 89, 3) := by decide +kernel
theorem em227_4 : decode prog_14_method_34_code 4 = .ok (.aload_n 0, 1) := by decide +kernel
theorem em227_5 : decode prog_14_method_34_code 5 = .ok (.getfield 239, 3) := by decide +kernel
theorem em227_8 : decode prog_14_method_34_code 8 = .ok (.aload_n 0, 1) := by decide +kernel
theorem em227_9 : decode prog_14_method_34_code 9 = .ok (.getfield 242, 3) := by decide +kernel
theorem em227_12 : decode prog_14_method_34_code 12 = .ok (.iastore, 1) := by decide +kernel
theorem em227_13 : decode prog_14_method_34_code 13 = .ok (.aload_n 0, 1) := by decide +kernel
theorem em227_14 : decode prog_14_method_34_code 14 = .ok (.getfield 200, 3) := by decide +kernel
theorem em227_17 : decode prog_14_method_34_code 17 = .ok (.ifCond .ne 7, 3) := by decide +kernel
theorem em227_20 : decode prog_14_method_34_code 20 = .ok (.aload_n 0, 1) := by decide +kernel
theorem em227_21 : decode prog_14_method_34_code 21 = .ok (.invokevirtual 301, 3) := by decide +kernel
theorem em227_24 : decode prog_14_method_34_code 24 = .ok (.aload_n 0, 1) := by decide +kernel
theorem em227_25 : decode prog_14_method_34_code 25 = .ok (.getfield 92, 3) := by decide +kernel
theorem em227_28 : decode prog_14_method_34_code 28 = .ok (.aload_n 0, 1) := by decide +kernel
theorem em227_29 : decode prog_14_method_34_code 29 = .ok (.getfield 239, 3) := by decide +kernel
theorem em227_32 : decode prog_14_method_34_code 32 = .ok (.aload_n 0, 1) := by decide +kernel
theorem em227_33 : decode prog_14_method_34_code 33 = .ok (.getfield 242, 3) := by decide +kernel
theorem em227_36 : decode prog_14_method_34_code 36 = .ok (.iastore, 1) := by decide +kernel
theorem em227_37 : decode prog_14_method_34_code 37 = .ok (.aload_n 0, 1) := by decide +kernel
theorem em227_38 : decode prog_14_method_34_code 38 = .ok (.dup, 1) := by decide +kernel
theorem em227_39 : decode prog_14_method_34_code 39 = .ok (.getfield 239, 3) := by decide +kernel
theorem em227_42 : decode prog_14_method_34_code 42 = .ok (.iconst 1, 1) := by decide +kernel
theorem em227_43 : decode prog_14_method_34_code 43 = .ok (.iadd, 1) := by decide +kernel
theorem em227_44 : decode prog_14_method_34_code 44 = .ok (.putfield 239, 3) := by decide +kernel
theorem em227_47 : decode prog_14_method_34_code 47 = .ok (.return_, 1) := by decide +kernel
set_option maxRecDepth 10000 in
set_option maxHeartbeats 4000000 in
theorem hM_259 : zOKx 259 := by
  intro d hc as I q h hq
  have h : hpr_259 (d + 1) as I := h
  obtain ⟨hd, rfl, hpre⟩ := h
  cases (show some _ = some q from hq)
  obtain ⟨⟨h12a, h12b⟩, h13a, h23, ⟨h16a, h16b⟩, hz⟩ := hpre
  refine hmet (L := [some (.inr (.inl (some 75)))]) (by decide) (Nat.le_of_ble_eq_true rfl) hc rfl ?_
  refine hA_aload (zs_aload_n em227_0) rfl ?_
  refine hA_getf2 (r := 99) (zs_getf (T := TX12) (M := 70) (ci := 12) (j := 47) em227_1 rfl inX12 (by decide) wd_1319 ((congrFun xo_12 89).trans rfl)) ⟨_, rfl, rfl⟩ ?_
  refine hA_aload (zs_aload_n em227_4) rfl ?_
  refine hA_getf0 (id := 16) (zs_getf (T := TX12) (M := 70) (ci := 12) (j := 43) em227_5 rfl inX12 (by decide) wd_1315 ((congrFun xo_12 239).trans rfl)) ⟨_, rfl, rfl⟩ (fun z5 hz5 => ?_)
  refine hA_aload (zs_aload_n em227_8) rfl ?_
  refine hA_getf0 (id := 17) (zs_getf (T := TX12) (M := 70) (ci := 12) (j := 49) em227_9 rfl inX12 (by decide) wd_1321 ((congrFun xo_12 242).trans rfl)) ⟨_, rfl, rfl⟩ (fun z9 hz9 => ?_)
  refine hA_iast (kd := 99) (len := 260) (zs_iast zInj0 em227_12) ⟨rfl, rfl, rfl⟩ (by omega) (by show _ < ((260 : Nat) : Int); omega) ?_
  refine hA_aload (zs_aload_n em227_13) rfl ?_
  refine hA_getf0 (id := 13) (zs_getf (T := TX12) (M := 70) (ci := 12) (j := 27) em227_14 rfl inX12 (by decide) wd_1294 ((congrFun xo_12 200).trans rfl)) ⟨_, rfl, rfl⟩ (fun z14 hz14 => ?_)
  rw [zf_arr _ _ _ _ _ (by decide)] at hz14
  refine hA_if (zs_ifne em227_17 (t := 24) (by decide)) (fun (c17 : ¬ z14.toInt = 0) => ?_) (fun (c17 : ¬ ¬ z14.toInt = 0) => ?_)
  · refine hA_aload (zs_aload_n em227_24) rfl ?_
    refine hA_getf2 (r := 100) (zs_getf (T := TX12) (M := 70) (ci := 12) (j := 48) em227_25 rfl inX12 (by decide) wd_1320 ((congrFun xo_12 92).trans rfl)) ⟨_, rfl, rfl⟩ ?_
    refine hA_aload (zs_aload_n em227_28) rfl ?_
    refine hA_getf0 (id := 16) (zs_getf (T := TX12) (M := 70) (ci := 12) (j := 43) em227_29 rfl inX12 (by decide) wd_1315 ((congrFun xo_12 239).trans rfl)) ⟨_, rfl, rfl⟩ (fun z29 hz29 => ?_)
    rw [zf_arr _ _ _ _ _ (by decide)] at hz29
    refine hA_aload (zs_aload_n em227_32) rfl ?_
    refine hA_getf0 (id := 17) (zs_getf (T := TX12) (M := 70) (ci := 12) (j := 49) em227_33 rfl inX12 (by decide) wd_1321 ((congrFun xo_12 242).trans rfl)) ⟨_, rfl, rfl⟩ (fun z33 hz33 => ?_)
    rw [zf_arr _ _ _ _ _ (by decide)] at hz33
    refine hA_iast (kd := 100) (len := 260) (zs_iast zInj0 em227_36) ⟨rfl, rfl, rfl⟩ (by omega) (by show _ < ((260 : Nat) : Int); omega) ?_
    refine hA_aload (zs_aload_n em227_37) rfl ?_
    refine hA_dup (zs_dup em227_38) rfl ?_
    refine hA_getf0 (id := 16) (zs_getf (T := TX12) (M := 70) (ci := 12) (j := 43) em227_39 rfl inX12 (by decide) wd_1315 ((congrFun xo_12 239).trans rfl)) ⟨_, rfl, rfl⟩ (fun z39 hz39 => ?_)
    rw [zf_arr _ _ _ _ _ (by decide), zf_arr _ _ _ _ _ (by decide)] at hz39
    refine hA_const (k := 1) (zs_iconst (v := 1) em227_42 (by decide +kernel)) (by decide +kernel) (fun z42 hz42 => ?_)
    refine hA_add (zs_iadd em227_43) (by omega) (by omega) (fun z43 hz43 => ?_)
    refine hA_puti0 (id := 16) (zs_puti zInj0 (T := TX12) (M := 70) (ty := tyX12) (ci := 12) (j := 43) (kd := 0) em227_44 rfl inX12 tyX12_ok nmX12 (by decide) wd_1315 (Or.inl ⟨rfl, rfl⟩) rfl ((congrFun xo_12 239).trans rfl)) ⟨_, rfl, rfl⟩ (fun h => by cases h) ?_
    refine hA_return ⟨rfl, em227_47⟩ ⟨Nat.le_refl _, Nat.le_refl _⟩ ?_
    intro he
    cases he
    have hE0 := eFr_rf (I := zupd I (zid 99 z5.toInt.toNat) z9) (by rw [zf_arr _ _ _ _ _ (by decide)]; omega) (by rw [zf_arr _ _ _ _ _ (by decide)]; omega)
    have hT := tFr_mk (a := z5) (x := z9) (b := z29) (y := z33) (v := z43) (by omega) (by omega) (by omega) hE0 (by omega) (by omega)
    have e : ∀ f, f < 4096 → f ≠ 16 → zf (zupd (zupd (zupd I (zid 99 z5.toInt.toNat) z9) (zid 100 z29.toInt.toNat) z33) 16 z43) f = zf I f := fun f hf h16 => by rw [zf_ne h16, zf_arr _ _ _ _ _ hf, zf_arr _ _ _ _ _ hf]
    refine ⟨rfl, hT, fun h => ?_, fun h => ⟨e 17 (by decide) (by decide), e 12 (by decide) (by decide)⟩, ?_⟩
    · rw [e 13 (by decide) (by decide)] at h
      exfalso; omega
    · rw [e 17 (by decide) (by decide)]
      exact imx_r _ _
  · obtain ⟨hz14, hz17a, hz17b⟩ := hz (by omega)
    refine hA_aload (zs_aload_n em227_20) rfl ?_
    refine hA_callV (as := []) (rest := []) (B' := (0, 0)) (zs_invV (T := TX12) em227_21 zl_262 rfl wd_1597 wd_1599 wd_67 ((congrFun xo_12 301).trans rfl) xm_230) rfl ⟨_, rfl⟩ (Nat.le_of_ble_eq_true rfl) rfl ⟨Nat.zero_le _, Nat.zero_le _⟩ (hpre_of rfl (show hpr_262 d [.inr (.inl (some 75))] (zupd I (zid 99 z5.toInt.toNat) z9) from ⟨by show 5 ≤ d; omega, rfl, ⟨⟨by rw [zf_arr _ _ _ _ _ (by decide)]; omega, by rw [zf_arr _ _ _ _ _ (by decide)]; omega⟩, by rw [zf_arr _ _ _ _ _ (by decide)]; omega, fun _ => ⟨by rw [zf_arr _ _ _ _ _ (by decide)]; omega, by rw [zf_arr _ _ _ _ _ (by decide)]; omega, by rw [zf_arr _ _ _ _ _ (by decide)]; rw [zf_arr _ _ _ _ _ (by decide)]; omega, by rw [zf_arr _ _ _ _ _ (by decide)]; rw [zf_arr _ _ _ _ _ (by decide)]; rw [zf_arr _ _ _ _ _ (by decide)]; omega⟩⟩⟩)) (fun r21 I21 hp21 => ?_)
    replace hp21 : hpo_262 _ _ _ _ := hpost_of rfl hp21
    replace hp21 := hp21 rfl
    obtain ⟨rfl, hX, hXb, hXf, -⟩ := hp21
    have hX12 := hX.2.2.2.2.1
    have hX13 := hX.2.2.2.2.2.1
    have hX17 := hX.2.2.2.1
    have hX16 : zf I21 16 = zf (zupd I (zid 99 z5.toInt.toNat) z9) 16 := by unfold zf; rw [hX.1 16 (by decide) (by decide) (by decide) (by decide) (by decide) (by decide)]
    rw [zf_arr _ _ _ _ _ (by decide)] at hX12 hX17 hX16
    refine hA_aload (zs_aload_n em227_24) rfl ?_
    refine hA_getf2 (r := 100) (zs_getf (T := TX12) (M := 70) (ci := 12) (j := 48) em227_25 rfl inX12 (by decide) wd_1320 ((congrFun xo_12 92).trans rfl)) ⟨_, rfl, rfl⟩ ?_
    refine hA_aload (zs_aload_n em227_28) rfl ?_
    refine hA_getf0 (id := 16) (zs_getf (T := TX12) (M := 70) (ci := 12) (j := 43) em227_29 rfl inX12 (by decide) wd_1315 ((congrFun xo_12 239).trans rfl)) ⟨_, rfl, rfl⟩ (fun z29' hz29' => ?_)
    refine hA_aload (zs_aload_n em227_32) rfl ?_
    refine hA_getf0 (id := 17) (zs_getf (T := TX12) (M := 70) (ci := 12) (j := 49) em227_33 rfl inX12 (by decide) wd_1321 ((congrFun xo_12 242).trans rfl)) ⟨_, rfl, rfl⟩ (fun z33' hz33' => ?_)
    refine hA_iast (kd := 100) (len := 260) (zs_iast zInj0 em227_36) ⟨rfl, rfl, rfl⟩ (by omega) (by show _ < ((260 : Nat) : Int); omega) ?_
    refine hA_aload (zs_aload_n em227_37) rfl ?_
    refine hA_dup (zs_dup em227_38) rfl ?_
    refine hA_getf0 (id := 16) (zs_getf (T := TX12) (M := 70) (ci := 12) (j := 43) em227_39 rfl inX12 (by decide) wd_1315 ((congrFun xo_12 239).trans rfl)) ⟨_, rfl, rfl⟩ (fun z39' hz39' => ?_)
    rw [zf_arr _ _ _ _ _ (by decide)] at hz39'
    refine hA_const (k := 1) (zs_iconst (v := 1) em227_42 (by decide +kernel)) (by decide +kernel) (fun z42' hz42' => ?_)
    refine hA_add (zs_iadd em227_43) (by omega) (by omega) (fun z43' hz43' => ?_)
    refine hA_puti0 (id := 16) (zs_puti zInj0 (T := TX12) (M := 70) (ty := tyX12) (ci := 12) (j := 43) (kd := 0) em227_44 rfl inX12 tyX12_ok nmX12 (by decide) wd_1315 (Or.inl ⟨rfl, rfl⟩) rfl ((congrFun xo_12 239).trans rfl)) ⟨_, rfl, rfl⟩ (fun h => by cases h) ?_
    refine hA_return ⟨rfl, em227_47⟩ ⟨Nat.le_refl _, Nat.le_refl _⟩ ?_
    intro he
    cases he
    have hT := tFr_mk (a := z5) (x := z9) (b := z29') (y := z33') (v := z43') (by omega) (by omega) (by omega) hX (by omega) (by omega)
    have e0 : ∀ f, f < 4096 → zf (zupd I (zid 99 z5.toInt.toNat) z9) f = zf I f := fun f hf => zf_arr _ _ _ _ _ hf
    replace hXb := hXb (by rw [e0 13 (by decide)]; omega)
    rw [e0 23 (by decide)] at hXb
    rw [e0 13 (by decide), e0 23 (by decide), e0 12 (by decide), e0 17 (by decide)] at hXf
    have e : ∀ f, f < 4096 → f ≠ 16 → zf (zupd (zupd I21 (zid 100 z29'.toInt.toNat) z33') 16 z43') f = zf I21 f := fun f hf h16 => by rw [zf_ne h16, zf_arr _ _ _ _ _ hf]
    refine ⟨rfl, hT, fun h => ?_, fun h => by exfalso; omega, ?_⟩
    · rw [e 13 (by decide) (by decide)] at h
      obtain ⟨-, f1, f2, f3, f4⟩ := hXf h
      rw [e 14 (by decide) (by decide), e 17 (by decide) (by decide), e 12 (by decide) (by decide)]
      refine ⟨by omega, f2, f1, f3, ?_, ?_, ?_⟩
      · rw [zv_fld _ _ _ _ _ (by decide), zv_nk (by decide) (by omega) (by omega)]
        unfold zv
        rw [hX.2.1 99 _ (by omega) (by decide) (by decide) (by decide), show (zf I 16).toNat = z5.toInt.toNat by omega]
        unfold zupd
        rw [if_pos rfl]
        omega
      · rw [zv_fld _ _ _ _ _ (by decide), show zf I 16 = z29'.toInt by omega, zv_at]
        omega
      · exact zpx_cg (V := zVs I21) (fun i hi => ⟨(zupd_fr (by unfold zid; omega)).trans (zupd_fr (by unfold zid; omega)), (zupd_fr (by unfold zid; omega)).trans (zupd_fr (by unfold zid; omega))⟩) f4
    · rw [e 17 (by decide) (by decide), e 12 (by decide) (by decide)]
      exact Int.le_trans hXb (imx_l _ _)
