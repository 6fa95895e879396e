theorem zupd_two {I : zI} {a : Nat} {v w : Int32} : zupd (zupd I a v) a w = zupd I a w := by
  funext i
  unfold zupd
  split <;> rfl
theorem zupd_five {I : zI} {a : Nat} {v1 v2 v3 v4 v5 : Int32} : zupd (zupd (zupd (zupd (zupd I a v1) a v2) a v3) a v4) a v5 = zupd I a v5 := by
  rw [zupd_two, zupd_two, zupd_two, zupd_two]
set_option maxRecDepth 10000 in
set_option maxHeartbeats 4000000 in
theorem hM_275 : zOKx 275 := by
  intro d hc as I q h hq
  have h : hpr_275 (d + 1) as I := h
  obtain ⟨hd, a, b, c, e, f, rfl, hpre⟩ := h
  cases (show some _ = some q from hq)
  refine hmet (L := [some (.inr (.inl (some 0))), some (.inl a), some (.inl b), some (.inl c), some (.inl e), some (.inl f)]) (by decide) (Nat.le_of_ble_eq_true rfl) hc rfl ?_
  obtain ⟨hp0, hp1⟩ := hpre
  refine hA_aload (zs_aload_n em81_0) rfl ?_
  refine hA_getf0 (id := 1) (zs_getf (T := TX11) (M := 16) (ci := 11) (j := 6) em81_1 rfl inX11 (by decide) wd_554 ((congrFun xo_0 13).trans rfl)) ⟨_, rfl, rfl⟩ (fun z1 hz1 => ?_)
  refine hA_const (k := 20) (zs_bipush (v := 20) em81_4 (by decide +kernel)) (by decide +kernel) (fun z4 hz4 => ?_)
  refine hA_add (zs_iadd em81_6) (by omega) (by omega) (fun z6 hz6 => ?_)
  refine hA_const (k := 2000) (zs_sipush (v := 2000) em81_7 (by decide +kernel)) (by decide +kernel) (fun z7 hz7 => ?_)
  refine hA_icmp (zs_icmple em81_10 (t := 15) (by decide)) (fun (c10 : z6.toInt ≤ z7.toInt) => ?_) (fun (c10 : ¬ z6.toInt ≤ z7.toInt) => ?_)
  · refine hA_aload (zs_aload_n em81_15) rfl ?_
    refine hA_iload (zs_iload_n em81_16) rfl ?_
    refine hA_callV (as := [.inl a]) (rest := []) (B' := (0, 0)) (zs_invV (T := TX11) em81_17 zl_75 rfl wd_606 wd_608 wd_1 ((congrFun xo_0 109).trans rfl) xm_70) rfl ⟨_, rfl⟩ (Nat.le_of_ble_eq_true rfl) rfl ⟨Nat.zero_le _, Nat.zero_le _⟩ (zpre_of zh_75 ⟨(by show 1 ≤ d; omega), ⟨_, _, rfl, rfl, ⟨_, _, rfl, ⟨_, rfl, an_lo _, an_hi _⟩, rfl⟩⟩, (hF_cons (lo := 0) (hi := 1996) ⟨by omega, by omega⟩ hF_nil), fun h => by cases h⟩) (fun r17 I17 hp17 => ?_)
    replace hp17 := zpost_of zh_75 hp17
    obtain ⟨v17_1, rfl, rfl, hv17_1e, hv17_1l, hv17_1h⟩ := zq_75 hp17
    refine hA_aload (zs_aload_n em81_20) rfl ?_
    refine hA_iload (zs_iload_n em81_21) rfl ?_
    refine hA_callV (as := [.inl b]) (rest := []) (B' := (0, 0)) (zs_invV (T := TX11) em81_22 zl_75 rfl wd_606 wd_608 wd_1 ((congrFun xo_0 109).trans rfl) xm_70) rfl ⟨_, rfl⟩ (Nat.le_of_ble_eq_true rfl) rfl ⟨Nat.zero_le _, Nat.zero_le _⟩ (zpre_of zh_75 ⟨(by show 1 ≤ d; omega), ⟨_, _, rfl, rfl, ⟨_, _, rfl, ⟨_, rfl, an_lo _, an_hi _⟩, rfl⟩⟩, (hF_cons (lo := 0) (hi := 1996) ⟨by rw [zf_same]; omega, by rw [zf_same]; omega⟩ hF_nil), fun h => by cases h⟩) (fun r22 I22 hp22 => ?_)
    replace hp22 := zpost_of zh_75 hp22
    obtain ⟨v22_1, rfl, rfl, hv22_1e, hv22_1l, hv22_1h⟩ := zq_75 hp22
    rw [zf_same] at hv22_1e
    refine hA_aload (zs_aload_n em81_25) rfl ?_
    refine hA_iload (zs_iload_n em81_26) rfl ?_
    refine hA_callV (as := [.inl c]) (rest := []) (B' := (0, 0)) (zs_invV (T := TX11) em81_27 zl_75 rfl wd_606 wd_608 wd_1 ((congrFun xo_0 109).trans rfl) xm_70) rfl ⟨_, rfl⟩ (Nat.le_of_ble_eq_true rfl) rfl ⟨Nat.zero_le _, Nat.zero_le _⟩ (zpre_of zh_75 ⟨(by show 1 ≤ d; omega), ⟨_, _, rfl, rfl, ⟨_, _, rfl, ⟨_, rfl, an_lo _, an_hi _⟩, rfl⟩⟩, (hF_cons (lo := 0) (hi := 1996) ⟨by rw [zf_same]; omega, by rw [zf_same]; omega⟩ hF_nil), fun h => by cases h⟩) (fun r27 I27 hp27 => ?_)
    replace hp27 := zpost_of zh_75 hp27
    obtain ⟨v27_1, rfl, rfl, hv27_1e, hv27_1l, hv27_1h⟩ := zq_75 hp27
    rw [zf_same] at hv27_1e
    refine hA_aload (zs_aload_n em81_30) rfl ?_
    refine hA_iload (zs_iload em81_31) rfl ?_
    refine hA_callV (as := [.inl e]) (rest := []) (B' := (0, 0)) (zs_invV (T := TX11) em81_33 zl_75 rfl wd_606 wd_608 wd_1 ((congrFun xo_0 109).trans rfl) xm_70) rfl ⟨_, rfl⟩ (Nat.le_of_ble_eq_true rfl) rfl ⟨Nat.zero_le _, Nat.zero_le _⟩ (zpre_of zh_75 ⟨(by show 1 ≤ d; omega), ⟨_, _, rfl, rfl, ⟨_, _, rfl, ⟨_, rfl, an_lo _, an_hi _⟩, rfl⟩⟩, (hF_cons (lo := 0) (hi := 1996) ⟨by rw [zf_same]; omega, by rw [zf_same]; omega⟩ hF_nil), fun h => by cases h⟩) (fun r33 I33 hp33 => ?_)
    replace hp33 := zpost_of zh_75 hp33
    obtain ⟨v33_1, rfl, rfl, hv33_1e, hv33_1l, hv33_1h⟩ := zq_75 hp33
    rw [zf_same] at hv33_1e
    refine hA_aload (zs_aload_n em81_36) rfl ?_
    refine hA_iload (zs_iload em81_37) rfl ?_
    refine hA_callV (as := [.inl f]) (rest := []) (B' := (0, 0)) (zs_invV (T := TX11) em81_39 zl_75 rfl wd_606 wd_608 wd_1 ((congrFun xo_0 109).trans rfl) xm_70) rfl ⟨_, rfl⟩ (Nat.le_of_ble_eq_true rfl) rfl ⟨Nat.zero_le _, Nat.zero_le _⟩ (zpre_of zh_75 ⟨(by show 1 ≤ d; omega), ⟨_, _, rfl, rfl, ⟨_, _, rfl, ⟨_, rfl, an_lo _, an_hi _⟩, rfl⟩⟩, (hF_cons (lo := 0) (hi := 1996) ⟨by rw [zf_same]; omega, by rw [zf_same]; omega⟩ hF_nil), fun h => by cases h⟩) (fun r39 I39 hp39 => ?_)
    replace hp39 := zpost_of zh_75 hp39
    obtain ⟨v39_1, rfl, rfl, hv39_1e, hv39_1l, hv39_1h⟩ := zq_75 hp39
    rw [zf_same] at hv39_1e
    refine hA_aload (zs_aload_n em81_42) rfl ?_
    refine hA_getf0 (id := 1) (zs_getf (T := TX11) (M := 16) (ci := 11) (j := 6) em81_43 rfl inX11 (by decide) wd_554 ((congrFun xo_0 13).trans rfl)) ⟨_, rfl, rfl⟩ (fun z43 hz43 => ?_)
    rw [zf_same] at hz43
    refine hA_ireturn ⟨rfl, em81_46⟩ ⟨Nat.le_refl _, Nat.le_refl _⟩ ?_
    intro a' b' c' e' f' he
    cases he
    refine ⟨_, rfl, Or.inr ⟨by omega, v39_1, by omega, by omega, ?_⟩⟩
    exact zupd_five
  · refine hA_const (k := (-1)) (zs_iconst (v := (-1)) em81_13 (by decide +kernel)) (by decide +kernel) (fun z13 hz13 => ?_)
    refine hA_ireturn ⟨rfl, em81_14⟩ ⟨Nat.le_refl _, Nat.le_refl _⟩ ?_
    intro a' b' c' e' f' he
    cases he
    exact ⟨_, rfl, Or.inl ⟨by omega, by omega, rfl⟩⟩
set_option maxRecDepth 10000 in
set_option maxHeartbeats 4000000 in
theorem hM_276 : zOKx 276 := by
  intro d hc as I q h hq
  have h : hpr_276 (d + 1) as I := h
  obtain ⟨hd, a, b, c, e, f, rfl, hpre⟩ := h
  cases (show some _ = some q from hq)
  refine hmet (L := [some (.inr (.inl (some 75))), some (.inl a), some (.inl b), some (.inl c), some (.inl e), some (.inl f)]) (by decide) (Nat.le_of_ble_eq_true rfl) hc rfl ?_
  obtain ⟨hp0, hp1⟩ := hpre
  refine hA_aload (zs_aload_n em134_0) rfl ?_
  refine hA_getf0 (id := 10) (zs_getf (T := TX12) (M := 70) (ci := 12) (j := 12) em134_1 rfl inX12 (by decide) wd_1283 ((congrFun xo_12 163).trans rfl)) ⟨_, rfl, rfl⟩ (fun z1 hz1 => ?_)
  refine hA_const (k := 20) (zs_bipush (v := 20) em134_4 (by decide +kernel)) (by decide +kernel) (fun z4 hz4 => ?_)
  refine hA_add (zs_iadd em134_6) (by omega) (by omega) (fun z6 hz6 => ?_)
  refine hA_const (k := 2000) (zs_sipush (v := 2000) em134_7 (by decide +kernel)) (by decide +kernel) (fun z7 hz7 => ?_)
  refine hA_icmp (zs_icmple em134_10 (t := 15) (by decide)) (fun (c10 : z6.toInt ≤ z7.toInt) => ?_) (fun (c10 : ¬ z6.toInt ≤ z7.toInt) => ?_)
  · refine hA_aload (zs_aload_n em134_15) rfl ?_
    refine hA_iload (zs_iload_n em134_16) rfl ?_
    refine hA_callV (as := [.inl a]) (rest := []) (B' := (0, 0)) (zs_invV (T := TX12) em134_17 zl_205 rfl wd_1497 wd_1499 wd_47 ((congrFun xo_12 166).trans rfl) xm_178) rfl ⟨_, rfl⟩ (Nat.le_of_ble_eq_true rfl) rfl ⟨Nat.zero_le _, Nat.zero_le _⟩ (zpre_of zh_205 ⟨(by show 1 ≤ d; omega), ⟨_, _, rfl, rfl, ⟨_, _, rfl, ⟨_, rfl, an_lo _, an_hi _⟩, rfl⟩⟩, (hF_cons (lo := 0) (hi := 1996) ⟨by omega, by omega⟩ hF_nil), fun h => by cases h⟩) (fun r17 I17 hp17 => ?_)
    replace hp17 := zpost_of zh_205 hp17
    obtain ⟨v17_10, rfl, rfl, hv17_10e, hv17_10l, hv17_10h⟩ := zq_205 hp17
    refine hA_aload (zs_aload_n em134_20) rfl ?_
    refine hA_iload (zs_iload_n em134_21) rfl ?_
    refine hA_callV (as := [.inl b]) (rest := []) (B' := (0, 0)) (zs_invV (T := TX12) em134_22 zl_205 rfl wd_1497 wd_1499 wd_47 ((congrFun xo_12 166).trans rfl) xm_178) rfl ⟨_, rfl⟩ (Nat.le_of_ble_eq_true rfl) rfl ⟨Nat.zero_le _, Nat.zero_le _⟩ (zpre_of zh_205 ⟨(by show 1 ≤ d; omega), ⟨_, _, rfl, rfl, ⟨_, _, rfl, ⟨_, rfl, an_lo _, an_hi _⟩, rfl⟩⟩, (hF_cons (lo := 0) (hi := 1996) ⟨by rw [zf_same]; omega, by rw [zf_same]; omega⟩ hF_nil), fun h => by cases h⟩) (fun r22 I22 hp22 => ?_)
    replace hp22 := zpost_of zh_205 hp22
    obtain ⟨v22_10, rfl, rfl, hv22_10e, hv22_10l, hv22_10h⟩ := zq_205 hp22
    rw [zf_same] at hv22_10e
    refine hA_aload (zs_aload_n em134_25) rfl ?_
    refine hA_iload (zs_iload_n em134_26) rfl ?_
    refine hA_callV (as := [.inl c]) (rest := []) (B' := (0, 0)) (zs_invV (T := TX12) em134_27 zl_205 rfl wd_1497 wd_1499 wd_47 ((congrFun xo_12 166).trans rfl) xm_178) rfl ⟨_, rfl⟩ (Nat.le_of_ble_eq_true rfl) rfl ⟨Nat.zero_le _, Nat.zero_le _⟩ (zpre_of zh_205 ⟨(by show 1 ≤ d; omega), ⟨_, _, rfl, rfl, ⟨_, _, rfl, ⟨_, rfl, an_lo _, an_hi _⟩, rfl⟩⟩, (hF_cons (lo := 0) (hi := 1996) ⟨by rw [zf_same]; omega, by rw [zf_same]; omega⟩ hF_nil), fun h => by cases h⟩) (fun r27 I27 hp27 => ?_)
    replace hp27 := zpost_of zh_205 hp27
    obtain ⟨v27_10, rfl, rfl, hv27_10e, hv27_10l, hv27_10h⟩ := zq_205 hp27
    rw [zf_same] at hv27_10e
    refine hA_aload (zs_aload_n em134_30) rfl ?_
    refine hA_iload (zs_iload em134_31) rfl ?_
    refine hA_callV (as := [.inl e]) (rest := []) (B' := (0, 0)) (zs_invV (T := TX12) em134_33 zl_205 rfl wd_1497 wd_1499 wd_47 ((congrFun xo_12 166).trans rfl) xm_178) rfl ⟨_, rfl⟩ (Nat.le_of_ble_eq_true rfl) rfl ⟨Nat.zero_le _, Nat.zero_le _⟩ (zpre_of zh_205 ⟨(by show 1 ≤ d; omega), ⟨_, _, rfl, rfl, ⟨_, _, rfl, ⟨_, rfl, an_lo _, an_hi _⟩, rfl⟩⟩, (hF_cons (lo := 0) (hi := 1996) ⟨by rw [zf_same]; omega, by rw [zf_same]; omega⟩ hF_nil), fun h => by cases h⟩) (fun r33 I33 hp33 => ?_)
    replace hp33 := zpost_of zh_205 hp33
    obtain ⟨v33_10, rfl, rfl, hv33_10e, hv33_10l, hv33_10h⟩ := zq_205 hp33
    rw [zf_same] at hv33_10e
    refine hA_aload (zs_aload_n em134_36) rfl ?_
    refine hA_iload (zs_iload em134_37) rfl ?_
    refine hA_callV (as := [.inl f]) (rest := []) (B' := (0, 0)) (zs_invV (T := TX12) em134_39 zl_205 rfl wd_1497 wd_1499 wd_47 ((congrFun xo_12 166).trans rfl) xm_178) rfl ⟨_, rfl⟩ (Nat.le_of_ble_eq_true rfl) rfl ⟨Nat.zero_le _, Nat.zero_le _⟩ (zpre_of zh_205 ⟨(by show 1 ≤ d; omega), ⟨_, _, rfl, rfl, ⟨_, _, rfl, ⟨_, rfl, an_lo _, an_hi _⟩, rfl⟩⟩, (hF_cons (lo := 0) (hi := 1996) ⟨by rw [zf_same]; omega, by rw [zf_same]; omega⟩ hF_nil), fun h => by cases h⟩) (fun r39 I39 hp39 => ?_)
    replace hp39 := zpost_of zh_205 hp39
    obtain ⟨v39_10, rfl, rfl, hv39_10e, hv39_10l, hv39_10h⟩ := zq_205 hp39
    rw [zf_same] at hv39_10e
    refine hA_aload (zs_aload_n em134_42) rfl ?_
    refine hA_getf0 (id := 10) (zs_getf (T := TX12) (M := 70) (ci := 12) (j := 12) em134_43 rfl inX12 (by decide) wd_1283 ((congrFun xo_12 163).trans rfl)) ⟨_, rfl, rfl⟩ (fun z43 hz43 => ?_)
    rw [zf_same] at hz43
    refine hA_ireturn ⟨rfl, em134_46⟩ ⟨Nat.le_refl _, Nat.le_refl _⟩ ?_
    intro a' b' c' e' f' he
    cases he
    refine ⟨_, rfl, Or.inr ⟨by omega, v39_10, by omega, by omega, ?_⟩⟩
    exact zupd_five
  · refine hA_const (k := (-1)) (zs_iconst (v := (-1)) em134_13 (by decide +kernel)) (by decide +kernel) (fun z13 hz13 => ?_)
    refine hA_ireturn ⟨rfl, em134_14⟩ ⟨Nat.le_refl _, Nat.le_refl _⟩ ?_
    intro a' b' c' e' f' he
    cases he
    exact ⟨_, rfl, Or.inl ⟨by omega, by omega, rfl⟩⟩
theorem em72_0 : decode prog_1_method_4_code 0 = .ok (.iload_n 1, 1) := by decide +kernel
theorem em72_1 : decode prog_1_method_4_code 1 = .ok (.ifCond .lt 11, 3) := by decide +kernel
theorem em72_4 : decode prog_1_method_4_code 4 = .ok (.iload_n 1, 1) := by decide +kernel
theorem em72_5 : decode prog_1_method_4_code 5 = .ok (.aload_n 0, 1) := by decide +kernel
theorem em72_6 : decode prog_1_method_4_code 6 = .ok (.getfield 13, 3) := by decide +kernel
theorem em72_9 : decode prog_1_method_4_code 9 = .ok (.if_icmp .le 5, 3) := by decide +kernel
theorem em72_12 : decode prog_1_method_4_code 12 = .ok (.iconst (-1), 1) := by decide +kernel
theorem em72_13 : decode prog_1_method_4_code 13 = .ok (.ireturn, 1) := by decide +kernel
theorem em72_14 : decode prog_1_method_4_code 14 = .ok (.aload_n 0, 1) := by decide +kernel
theorem em72_15 : decode prog_1_method_4_code 15 = .ok (.dup, 1) := by decide +kernel
theorem em72_16 : decode prog_1_method_4_code 16 = .ok (.getfield 13, 3) := by decide +kernel
theorem em72_19 : decode prog_1_method_4_code 19 = .ok (.iload_n 1, 1) := by decide +kernel
theorem em72_20 : decode prog_1_method_4_code 20 = .ok (.isub, 1) := by decide +kernel
theorem em72_21 : decode prog_1_method_4_code 21 = .ok (.putfield 13, 3) := by decide +kernel
theorem em72_24 : decode prog_1_method_4_code 24 = .ok (.aload_n 0, 1) := by decide +kernel
theorem em72_25 : decode prog_1_method_4_code 25 = .ok (.getfield 13, 3) := by decide +kernel
theorem em72_28 : decode prog_1_method_4_code 28 = .ok (.ireturn, 1) := by decide +kernel
set_option maxRecDepth 10000 in
set_option maxHeartbeats 4000000 in
theorem hM_277 : zOKx 277 := by
  intro d hc as I q h hq
  have h : hpr_277 (d + 1) as I := h
  obtain ⟨hd, a, rfl, hpre⟩ := h
  cases (show some _ = some q from hq)
  refine hmet (L := [some (.inr (.inl (some 0))), some (.inl a)]) (by decide) (Nat.le_of_ble_eq_true rfl) hc rfl ?_
  obtain ⟨hp0, hp1⟩ := hpre
  refine hA_iload (zs_iload_n em72_0) rfl ?_
  refine hA_if (zs_iflt em72_1 (t := 12) (by decide)) (fun (c1 : a.toInt < 0) => ?_) (fun (c1 : ¬ a.toInt < 0) => ?_)
  · refine hA_const (k := (-1)) (zs_iconst (v := (-1)) em72_12 (by decide +kernel)) (by decide +kernel) (fun z12 hz12 => ?_)
    refine hA_ireturn ⟨rfl, em72_13⟩ ⟨Nat.le_refl _, Nat.le_refl _⟩ ?_
    intro a' he
    cases he
    exact ⟨_, rfl, Or.inl ⟨by omega, by omega, rfl⟩⟩
  · refine hA_iload (zs_iload_n em72_4) rfl ?_
    refine hA_aload (zs_aload_n em72_5) rfl ?_
    refine hA_getf0 (id := 1) (zs_getf (T := TX11) (M := 16) (ci := 11) (j := 6) em72_6 rfl inX11 (by decide) wd_554 ((congrFun xo_0 13).trans rfl)) ⟨_, rfl, rfl⟩ (fun z6 hz6 => ?_)
    refine hA_icmp (zs_icmple em72_9 (t := 14) (by decide)) (fun (c9 : a.toInt ≤ z6.toInt) => ?_) (fun (c9 : ¬ a.toInt ≤ z6.toInt) => ?_)
    · refine hA_aload (zs_aload_n em72_14) rfl ?_
      refine hA_dup (zs_dup em72_15) rfl ?_
      refine hA_getf0 (id := 1) (zs_getf (T := TX11) (M := 16) (ci := 11) (j := 6) em72_16 rfl inX11 (by decide) wd_554 ((congrFun xo_0 13).trans rfl)) ⟨_, rfl, rfl⟩ (fun z16 hz16 => ?_)
      refine hA_iload (zs_iload_n em72_19) rfl ?_
      refine hA_sub (zs_isub em72_20) (by omega) (by omega) (fun z20 hz20 => ?_)
      refine hA_puti0 (id := 1) (zs_puti zInj0 (T := TX11) (M := 16) (ty := tyX11) (ci := 11) (j := 6) (kd := 0) em72_21 rfl inX11 tyX11_ok nmX11 (by decide) wd_554 (Or.inl ⟨rfl, rfl⟩) rfl ((congrFun xo_0 13).trans rfl)) ⟨_, rfl, rfl⟩ (fun h => by cases h) ?_
      refine hA_aload (zs_aload_n em72_24) rfl ?_
      refine hA_getf0 (id := 1) (zs_getf (T := TX11) (M := 16) (ci := 11) (j := 6) em72_25 rfl inX11 (by decide) wd_554 ((congrFun xo_0 13).trans rfl)) ⟨_, rfl, rfl⟩ (fun z25 hz25 => ?_)
      rw [zf_same] at hz25
      refine hA_ireturn ⟨rfl, em72_28⟩ ⟨Nat.le_refl _, Nat.le_refl _⟩ ?_
      intro a' he
      cases he
      exact ⟨_, rfl, Or.inr ⟨by omega, by omega, z20, by omega, by omega, rfl⟩⟩
    · refine hA_const (k := (-1)) (zs_iconst (v := (-1)) em72_12 (by decide +kernel)) (by decide +kernel) (fun z12' hz12' => ?_)
      refine hA_ireturn ⟨rfl, em72_13⟩ ⟨Nat.le_refl _, Nat.le_refl _⟩ ?_
      intro a' he
      cases he
      exact ⟨_, rfl, Or.inl ⟨by omega, by omega, rfl⟩⟩
theorem em119_0 : decode prog_14_method_5_code 0 = .ok (.iload_n 1, 1) := by decide +kernel
theorem em119_1 : decode prog_14_method_5_code 1 = .ok (.ifCond .lt 11, 3) := by decide +kernel
theorem em119_4 : decode prog_14_method_5_code 4 = .ok (.iload_n 1, 1) := by decide +kernel
theorem em119_5 : decode prog_14_method_5_code 5 = .ok (.aload_n 0, 1) := by decide +kernel
theorem em119_6 : decode prog_14_method_5_code 6 = .ok (.getfield 163, 3) := by decide +kernel
theorem em119_9 : decode prog_14_method_5_code 9 = .ok (.if_icmp .le 5, 3) := by decide +kernel
theorem em119_12 : decode prog_14_method_5_code 12 = .ok (.iconst (-1), 1) := by decide +kernel
theorem em119_13 : decode prog_14_method_5_code 13 = .ok (.ireturn, 1) := by decide +kernel
theorem em119_14 : decode prog_14_method_5_code 14 = .ok (.aload_n 0, 1) := by decide +kernel
theorem em119_15 : decode prog_14_method_5_code 15 = .ok (.dup, 1) := by decide +kernel
theorem em119_16 : decode prog_14_method_5_code 16 = .ok (.getfield 163, 3) := by decide +kernel
theorem em119_19 : decode prog_14_method_5_code 19 = .ok (.iload_n 1, 1) := by decide +kernel
theorem em119_20 : decode prog_14_method_5_code 20 = .ok (.isub, 1) := by decide +kernel
theorem em119_21 : decode prog_14_method_5_code 21 = .ok (.putfield 163, 3) := by decide +kernel
theorem em119_24 : decode prog_14_method_5_code 24 = .ok (.aload_n 0, 1) := by decide +kernel
theorem em119_25 : decode prog_14_method_5_code 25 = .ok (.getfield 163, 3) := by decide +kernel
theorem em119_28 : decode prog_14_method_5_code 28 = .ok (.ireturn, 1) := by decide +kernel
set_option maxRecDepth 10000 in
set_option maxHeartbeats 4000000 in
theorem hM_278 : zOKx 278 := by
  intro d hc as I q h hq
  have h : hpr_278 (d + 1) as I := h
  obtain ⟨hd, a, rfl, hpre⟩ := h
  cases (show some _ = some q from hq)
  refine hmet (L := [some (.inr (.inl (some 75))), some (.inl a)]) (by decide) (Nat.le_of_ble_eq_true rfl) hc rfl ?_
  obtain ⟨hp0, hp1⟩ := hpre
  refine hA_iload (zs_iload_n em119_0) rfl ?_
  refine hA_if (zs_iflt em119_1 (t := 12) (by decide)) (fun (c1 : a.toInt < 0) => ?_) (fun (c1 : ¬ a.toInt < 0) => ?_)
  · refine hA_const (k := (-1)) (zs_iconst (v := (-1)) em119_12 (by decide +kernel)) (by decide +kernel) (fun z12 hz12 => ?_)
    refine hA_ireturn ⟨rfl, em119_13⟩ ⟨Nat.le_refl _, Nat.le_refl _⟩ ?_
    intro a' he
    cases he
    exact ⟨_, rfl, Or.inl ⟨by omega, by omega, rfl⟩⟩
  · refine hA_iload (zs_iload_n em119_4) rfl ?_
    refine hA_aload (zs_aload_n em119_5) rfl ?_
    refine hA_getf0 (id := 10) (zs_getf (T := TX12) (M := 70) (ci := 12) (j := 12) em119_6 rfl inX12 (by decide) wd_1283 ((congrFun xo_12 163).trans rfl)) ⟨_, rfl, rfl⟩ (fun z6 hz6 => ?_)
    refine hA_icmp (zs_icmple em119_9 (t := 14) (by decide)) (fun (c9 : a.toInt ≤ z6.toInt) => ?_) (fun (c9 : ¬ a.toInt ≤ z6.toInt) => ?_)
    · refine hA_aload (zs_aload_n em119_14) rfl ?_
      refine hA_dup (zs_dup em119_15) rfl ?_
      refine hA_getf0 (id := 10) (zs_getf (T := TX12) (M := 70) (ci := 12) (j := 12) em119_16 rfl inX12 (by decide) wd_1283 ((congrFun xo_12 163).trans rfl)) ⟨_, rfl, rfl⟩ (fun z16 hz16 => ?_)
      refine hA_iload (zs_iload_n em119_19) rfl ?_
      refine hA_sub (zs_isub em119_20) (by omega) (by omega) (fun z20 hz20 => ?_)
      refine hA_puti0 (id := 10) (zs_puti zInj0 (T := TX12) (M := 70) (ty := tyX12) (ci := 12) (j := 12) (kd := 0) em119_21 rfl inX12 tyX12_ok nmX12 (by decide) wd_1283 (Or.inl ⟨rfl, rfl⟩) rfl ((congrFun xo_12 163).trans rfl)) ⟨_, rfl, rfl⟩ (fun h => by cases h) ?_
      refine hA_aload (zs_aload_n em119_24) rfl ?_
      refine hA_getf0 (id := 10) (zs_getf (T := TX12) (M := 70) (ci := 12) (j := 12) em119_25 rfl inX12 (by decide) wd_1283 ((congrFun xo_12 163).trans rfl)) ⟨_, rfl, rfl⟩ (fun z25 hz25 => ?_)
      rw [zf_same] at hz25
      refine hA_ireturn ⟨rfl, em119_28⟩ ⟨Nat.le_refl _, Nat.le_refl _⟩ ?_
      intro a' he
      cases he
      exact ⟨_, rfl, Or.inr ⟨by omega, by omega, z20, by omega, by omega, rfl⟩⟩
    · refine hA_const (k := (-1)) (zs_iconst (v := (-1)) em119_12 (by decide +kernel)) (by decide +kernel) (fun z12' hz12' => ?_)
      refine hA_ireturn ⟨rfl, em119_13⟩ ⟨Nat.le_refl _, Nat.le_refl _⟩ ?_
      intro a' he
      cases he
      exact ⟨_, rfl, Or.inl ⟨by omega, by omega, rfl⟩⟩
