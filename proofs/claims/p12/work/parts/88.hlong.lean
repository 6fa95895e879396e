theorem lgc0 {v : Int64} (h : 0 ≤ v.toInt) : (lg_cmp v (0 : Int64)).toInt ≤ 0 ↔ v.toInt = 0 := by
  have h1 : (lg_cmp v (0 : Int64)).toInt ≤ 0 ↔ lg_cmp v (0 : Int64) ≤ 0 := (Int32.le_iff_toInt_le (x := lg_cmp v 0) (y := 0)).symm
  have h2 : v ≤ (0 : Int64) ↔ v.toInt ≤ (0 : Int64).toInt := Int64.le_iff_toInt_le
  rw [h1, lg_cmp_le, h2]
  have h3 : (0 : Int64).toInt = 0 := rfl
  omega
theorem zwx_uq : ∀ {c c' : Nat} {v : Int}, zwx c v → zwx c' v → c = c'
  | 0, 0, v, _, _ => rfl
  | 0, c' + 1, v, h, h' => by have := (zwx_nn h').2; unfold zwx at h; omega
  | c + 1, 0, v, h, h' => by have := (zwx_nn h).2; unfold zwx at h'; omega
  | c + 1, c' + 1, v, h, h' => by
    have := zwx_uq (zwx_dm h).1 (zwx_dm h').1
    omega
theorem em217_0 : decode prog_14_method_9_code 0 = .ok (.iload_n 2, 1) := by decide +kernel
theorem em217_1 : decode prog_14_method_9_code 1 = .ok (.ifCond .ne 7, 3) := by decide +kernel
theorem em217_4 : decode prog_14_method_9_code 4 = .ok (.lload_n 0, 1) := by decide +kernel
theorem em217_5 : decode prog_14_method_9_code 5 = .ok (.goto 16, 3) := by decide +kernel
theorem em217_8 : decode prog_14_method_9_code 8 = .ok (.ldc2_w 172, 3) := by decide +kernel
theorem em217_11 : decode prog_14_method_9_code 11 = .ok (.lload_n 0, 1) := by decide +kernel
theorem em217_12 : decode prog_14_method_9_code 12 = .ok (.lmul, 1) := by decide +kernel
theorem em217_13 : decode prog_14_method_9_code 13 = .ok (.iload_n 2, 1) := by decide +kernel
theorem em217_14 : decode prog_14_method_9_code 14 = .ok (.bipush 97, 2) := by decide +kernel
theorem em217_16 : decode prog_14_method_9_code 16 = .ok (.isub, 1) := by decide +kernel
theorem em217_17 : decode prog_14_method_9_code 17 = .ok (.iconst 1, 1) := by decide +kernel
theorem em217_18 : decode prog_14_method_9_code 18 = .ok (.iadd, 1) := by decide +kernel
theorem em217_19 : decode prog_14_method_9_code 19 = .ok (.i2l, 1) := by decide +kernel
theorem em217_20 : decode prog_14_method_9_code 20 = .ok (.ladd, 1) := by decide +kernel
theorem em217_21 : decode prog_14_method_9_code 21 = .ok (.lreturn, 1) := by decide +kernel
set_option maxRecDepth 10000 in
set_option maxHeartbeats 4000000 in
theorem hM_249 : zOKx 249 := by
  intro d hc as I q h hq
  have h : hpr_249 (d + 1) as I := h
  obtain ⟨hd, x, a, rfl, hpre⟩ := h
  cases (show some _ = some q from hq)
  obtain ⟨c0, hc0, hzw, ha0, ha1⟩ := hpre
  refine hmet (L := [some (.inr (.inr x)), none, some (.inl a)]) (by decide) (Nat.le_of_ble_eq_true rfl) hc rfl ?_
  refine hA_iload (zs_iload_n em217_0) rfl ?_
  refine hA_if (zs_ifne em217_1 (t := 8) (by decide)) (fun (c1 : ¬ a.toInt = 0) => ?_) (fun (c1 : ¬ ¬ a.toInt = 0) => ?_)
  · refine hA_lconst (zs_ldc2 (v := 27) em217_8 wd_1273 ((congrFun xo_12 172).trans (by decide +kernel))) ?_
    refine hA_lload (zs_lload_n em217_11) rfl ?_
    refine hA (zs_lmul em217_12) ?_
    show zAt _ _ _ _ _ _ _ _ _ _ _ (.inr (.inr ((27 : Int64) * x)) :: _) _ _
    refine hA_iload (zs_iload_n em217_13) rfl ?_
    refine hA_const (k := 97) (zs_bipush (v := 97) em217_14 (by decide +kernel)) (by decide +kernel) (fun z14 hz14 => ?_)
    refine hA_sub (zs_isub em217_16) (by omega) (by omega) (fun z16 hz16 => ?_)
    refine hA_const (k := 1) (zs_iconst (v := 1) em217_17 (by decide +kernel)) (by decide +kernel) (fun z17 hz17 => ?_)
    refine hA_add (zs_iadd em217_18) (by omega) (by omega) (fun z18 hz18 => ?_)
    refine hA (zs_i2l em217_19) ?_
    show zAt _ _ _ _ _ _ _ _ _ _ _ (.inr (.inr z18.toInt64) :: _) _ _
    refine hA (zs_ladd em217_20) ?_
    show zAt _ _ _ _ _ _ _ _ _ _ _ (.inr (.inr (((27 : Int64) * x) + z18.toInt64)) :: _) _ _
    refine hA_lreturn ⟨rfl, em217_21⟩ ⟨Nat.le_refl _, Nat.le_refl _⟩ ?_
    intro x' a' he
    cases he
    have hx0 := zwx_nn hzw
    have hxb := zwx_b hzw (by omega)
    have e1 := al_mul (x := x) hx0.1 (by omega)
    have e2 := al_i2l z18
    have e3 : (27 * x + z18.toInt64).toInt = 27 * x.toInt + z18.toInt := by rw [al_add (by rw [e1, e2]; omega) (by rw [e1, e2]; omega), e1, e2]
    exact ⟨_, rfl, rfl, fun c hc => ⟨x.toInt, z18.toInt, hc, by omega, by omega, e3⟩⟩
  · exfalso
    omega
theorem em222_0 : decode prog_14_method_28_code 0 = .ok (.iconst 0, 1) := by decide +kernel
theorem em222_1 : decode prog_14_method_28_code 1 = .ok (.istore_n 2, 1) := by decide +kernel
theorem em222_2 : decode prog_14_method_28_code 2 = .ok (.lload_n 0, 1) := by decide +kernel
theorem em222_3 : decode prog_14_method_28_code 3 = .ok (.lstore_n 3, 1) := by decide +kernel
theorem em222_4 : decode prog_14_method_28_code 4 = .ok (.lload_n 3, 1) := by decide +kernel
theorem em222_5 : decode prog_14_method_28_code 5 = .ok (.lconst 0, 1) := by decide +kernel
theorem em222_6 : decode prog_14_method_28_code 6 = .ok (.lcmp, 1) := by decide +kernel
theorem em222_7 : decode prog_14_method_28_code 7 = .ok (.ifCond .le 15, 3) := by decide +kernel
theorem em222_10 : decode prog_14_method_28_code 10 = .ok (.iinc 2 1, 3) := by decide +kernel
theorem em222_13 : decode prog_14_method_28_code 13 = .ok (.lload_n 3, 1) := by decide +kernel
theorem em222_14 : decode prog_14_method_28_code 14 = .ok (.ldc2_w 172, 3) := by decide +kernel
theorem em222_17 : decode prog_14_method_28_code 17 = .ok (.ldiv, 1) := by decide +kernel
theorem em222_18 : decode prog_14_method_28_code 18 = .ok (.lstore_n 3, 1) := by decide +kernel
theorem em222_19 : decode prog_14_method_28_code 19 = .ok (.goto (-15), 3) := by decide +kernel
theorem em222_22 : decode prog_14_method_28_code 22 = .ok (.iload_n 2, 1) := by decide +kernel
theorem em222_23 : decode prog_14_method_28_code 23 = .ok (.ireturn, 1) := by decide +kernel
set_option maxRecDepth 10000 in
set_option maxHeartbeats 4000000 in
theorem hM_254 : zOKx 254 := by
  intro d hc as I q h hq
  have h : hpr_254 (d + 1) as I := h
  obtain ⟨hd, x, rfl, hpre⟩ := h
  cases (show some _ = some q from hq)
  obtain ⟨c0, hc0, hzw⟩ := hpre
  have loop : ∀ (n : Nat) (nn : Int32) (v : Int64) (k : Nat) (hk : zwx k v.toInt) (hn0 : 0 ≤ nn.toInt) (hnk : nn.toInt + (k : Int) = (c0 : Int)), (8 - nn.toInt).toNat = n → zAt zG0 PZ zbd zpre zpost (d, (zbd 254).1, (zbd 254).2) prog_14_method_28_code "CapitalCaseModel" (zRet prog_14_method_28_code (some .int) (zbd 254) (hpost 254 [.inr (.inr x)] I)) 4 [some (.inr (.inr x)), none, some (.inl nn), some (.inr (.inr v)), none] [] I (0, 0) := by
    intro n
    induction n using Nat.strongRecOn with
    | ind n ih =>
      intro nn v k hk hn0 hnk hn
      have hv0 := zwx_nn hk
      refine hA_lload (zs_lload_n em222_4) rfl ?_
      refine hA_lconst (zs_lconst (v := 0) em222_5 (by decide +kernel)) ?_
      refine hA (zs_lcmp em222_6) ?_
      show zAt _ _ _ _ _ _ _ _ _ _ _ (.inl (lg_cmp (v) ((0 : Int64))) :: _) _ _
      generalize hz6 : lg_cmp (v) ((0 : Int64)) = z6
      have hcm := lgc0 (v := v) hv0.1
      rw [hz6] at hcm
      refine hA_if (zs_ifle em222_7 (t := 22) (by decide)) (fun (c7 : z6.toInt ≤ 0) => ?_) (fun (c7 : ¬ z6.toInt ≤ 0) => ?_)
      · refine hA_iload (zs_iload_n em222_22) rfl ?_
        refine hA_ireturn ⟨rfl, em222_23⟩ ⟨Nat.le_refl _, Nat.le_refl _⟩ ?_
        intro x' he
        cases he
        exact ⟨_, rfl, rfl, c0, hc0, hzw, by omega⟩
      · refine hA_iinc (c := 1) (zs_iinc (k := 1) em222_10 (by decide +kernel)) (by decide +kernel) rfl ⟨Nat.le_of_ble_eq_true rfl, rfl⟩ (by omega) (by omega) (fun z10 hz10 => ?_)
        show zAt _ _ _ _ _ _ _ _ _ _ [some (.inr (.inr x)), none, some (.inl z10), some (.inr (.inr v)), none] _ _ _
        refine hA_lload (zs_lload_n em222_13) rfl ?_
        refine hA_lconst (zs_ldc2 (v := 27) em222_14 wd_1273 ((congrFun xo_12 172).trans (by decide +kernel))) ?_
        refine hA (zs_ldiv em222_17) ⟨by decide, ?_⟩
        show zAt _ _ _ _ _ _ _ _ _ _ _ (.inr (.inr (v / (27 : Int64))) :: _) _ _
        refine hA_lstore (L' := [some (.inr (.inr x)), none, some (.inl z10), some (.inr (.inr (v / (27 : Int64)))), none]) (zs_lstore_n em222_18) ⟨Nat.le_of_ble_eq_true rfl, rfl⟩ rfl ?_
        refine hA_goto (zs_goto em222_19 (t := 4) (by decide)) ?_
        obtain ⟨k', rfl⟩ : ∃ k', k = k' + 1 := ⟨k - 1, by omega⟩
        exact ih _ (by omega) z10 _ k' (by rw [al_div (by omega)]; exact (zwx_dm hk).1) (by omega) (by omega) rfl
  refine hmet (L := [some (.inr (.inr x)), none, none, none, none]) (by decide) (Nat.le_of_ble_eq_true rfl) hc rfl ?_
  refine hA_const (k := 0) (zs_iconst (v := 0) em222_0 (by decide +kernel)) (by decide +kernel) (fun z0 hz0 => ?_)
  refine hA_istore (L' := [some (.inr (.inr x)), none, some (.inl z0), none, none]) (zs_istore_n em222_1) ⟨Nat.le_of_ble_eq_true rfl, rfl⟩ rfl ?_
  refine hA_lload (zs_lload_n em222_2) rfl ?_
  refine hA_lstore (L' := [some (.inr (.inr x)), none, some (.inl z0), some (.inr (.inr x)), none]) (zs_lstore_n em222_3) ⟨Nat.le_of_ble_eq_true rfl, rfl⟩ rfl ?_
  exact loop _ z0 _ c0 hzw (by omega) (by omega) rfl
theorem em223_0 : decode prog_14_method_29_code 0 = .ok (.lload_n 0, 1) := by decide +kernel
theorem em223_1 : decode prog_14_method_29_code 1 = .ok (.lstore_n 3, 1) := by decide +kernel
theorem em223_2 : decode prog_14_method_29_code 2 = .ok (.lload_n 0, 1) := by decide +kernel
theorem em223_3 : decode prog_14_method_29_code 3 = .ok (.invokestatic 280, 3) := by decide +kernel
theorem em223_6 : decode prog_14_method_29_code 6 = .ok (.iconst 1, 1) := by decide +kernel
theorem em223_7 : decode prog_14_method_29_code 7 = .ok (.isub, 1) := by decide +kernel
theorem em223_8 : decode prog_14_method_29_code 8 = .ok (.istore 5, 2) := by decide +kernel
theorem em223_10 : decode prog_14_method_29_code 10 = .ok (.iload 5, 2) := by decide +kernel
theorem em223_12 : decode prog_14_method_29_code 12 = .ok (.iload_n 2, 1) := by decide +kernel
theorem em223_13 : decode prog_14_method_29_code 13 = .ok (.if_icmp .le 15, 3) := by decide +kernel
theorem em223_16 : decode prog_14_method_29_code 16 = .ok (.lload_n 3, 1) := by decide +kernel
theorem em223_17 : decode prog_14_method_29_code 17 = .ok (.ldc2_w 172, 3) := by decide +kernel
theorem em223_20 : decode prog_14_method_29_code 20 = .ok (.ldiv, 1) := by decide +kernel
theorem em223_21 : decode prog_14_method_29_code 21 = .ok (.lstore_n 3, 1) := by decide +kernel
theorem em223_22 : decode prog_14_method_29_code 22 = .ok (.iinc 5 (-1), 3) := by decide +kernel
theorem em223_25 : decode prog_14_method_29_code 25 = .ok (.goto (-15), 3) := by decide +kernel
theorem em223_28 : decode prog_14_method_29_code 28 = .ok (.lload_n 3, 1) := by decide +kernel
theorem em223_29 : decode prog_14_method_29_code 29 = .ok (.ldc2_w 172, 3) := by decide +kernel
theorem em223_32 : decode prog_14_method_29_code 32 = .ok (.lrem, 1) := by decide +kernel
theorem em223_33 : decode prog_14_method_29_code 33 = .ok (.l2i, 1) := by decide +kernel
theorem em223_34 : decode prog_14_method_29_code 34 = .ok (.iconst 1, 1) := by decide +kernel
theorem em223_35 : decode prog_14_method_29_code 35 = .ok (.isub, 1) := by decide +kernel
theorem em223_36 : decode prog_14_method_29_code 36 = .ok (.ireturn, 1) := by decide +kernel
set_option maxRecDepth 10000 in
set_option maxHeartbeats 4000000 in
theorem hM_255 : zOKx 255 := by
  intro d hc as I q h hq
  have h : hpr_255 (d + 1) as I := h
  obtain ⟨hd, x, a, rfl, hpre⟩ := h
  cases (show some _ = some q from hq)
  obtain ⟨c0, hc0, hzw, ha0, hac⟩ := hpre
  have loop : ∀ (n : Nat) (v : Int64) (k : Int32) (m : Nat) (hm : zwx m v.toInt) (hkm : (m : Int) = k.toInt + 1) (hka : a.toInt ≤ k.toInt) (hk8 : k.toInt ≤ 8), (k.toInt - a.toInt).toNat = n → zAt zG0 PZ zbd zpre zpost (d, (zbd 255).1, (zbd 255).2) prog_14_method_29_code "CapitalCaseModel" (zRet prog_14_method_29_code (some .int) (zbd 255) (hpost 255 [.inr (.inr x), .inl a] I)) 10 [some (.inr (.inr x)), none, some (.inl a), some (.inr (.inr v)), none, some (.inl k)] [] I (0, 0) := by
    intro n
    induction n using Nat.strongRecOn with
    | ind n ih =>
      intro v k m hm hkm hka hk8 hn
      have hv0 := zwx_nn hm
      refine hA_iload (zs_iload em223_10) rfl ?_
      refine hA_iload (zs_iload_n em223_12) rfl ?_
      refine hA_icmp (zs_icmple em223_13 (t := 28) (by decide)) (fun (c13 : k.toInt ≤ a.toInt) => ?_) (fun (c13 : ¬ k.toInt ≤ a.toInt) => ?_)
      · refine hA_lload (zs_lload_n em223_28) rfl ?_
        refine hA_lconst (zs_ldc2 (v := 27) em223_29 wd_1273 ((congrFun xo_12 172).trans (by decide +kernel))) ?_
        refine hA (zs_lrem em223_32) ⟨by decide, ?_⟩
        show zAt _ _ _ _ _ _ _ _ _ _ _ (.inr (.inr (v - v / (27 : Int64) * (27 : Int64))) :: _) _ _
        refine hA (zs_l2i em223_33) ?_
        show zAt _ _ _ _ _ _ _ _ _ _ _ (.inl ((v - v / (27 : Int64) * (27 : Int64))).toInt32 :: _) _ _
        generalize hz33 : ((v - v / (27 : Int64) * (27 : Int64))).toInt32 = z33
        obtain ⟨m', rfl⟩ : ∃ m', m = m' + 1 := ⟨m - 1, by omega⟩
        have hdm := zwx_dm hm
        have hre := al_rem (x := v) hv0.1
        have hl2 := al_l2i (x := v - v / 27 * 27) (by omega) (by omega)
        rw [hz33] at hl2
        refine hA_const (k := 1) (zs_iconst (v := 1) em223_34 (by decide +kernel)) (by decide +kernel) (fun z34 hz34 => ?_)
        refine hA_sub (zs_isub em223_35) (by omega) (by omega) (fun z35 hz35 => ?_)
        refine hA_ireturn ⟨rfl, em223_36⟩ ⟨Nat.le_refl _, Nat.le_refl _⟩ ?_
        intro x' a' he
        cases he
        exact ⟨_, rfl, rfl, by omega, by omega⟩
      · refine hA_lload (zs_lload_n em223_16) rfl ?_
        refine hA_lconst (zs_ldc2 (v := 27) em223_17 wd_1273 ((congrFun xo_12 172).trans (by decide +kernel))) ?_
        refine hA (zs_ldiv em223_20) ⟨by decide, ?_⟩
        show zAt _ _ _ _ _ _ _ _ _ _ _ (.inr (.inr (v / (27 : Int64))) :: _) _ _
        refine hA_lstore (L' := [some (.inr (.inr x)), none, some (.inl a), some (.inr (.inr (v / (27 : Int64)))), none, some (.inl k)]) (zs_lstore_n em223_21) ⟨Nat.le_of_ble_eq_true rfl, rfl⟩ rfl ?_
        refine hA_iinc (c := (-1)) (zs_iinc (k := (-1)) em223_22 (by decide +kernel)) (by decide +kernel) rfl ⟨Nat.le_of_ble_eq_true rfl, rfl⟩ (by omega) (by omega) (fun z22 hz22 => ?_)
        show zAt _ _ _ _ _ _ _ _ _ _ [some (.inr (.inr x)), none, some (.inl a), some (.inr (.inr (v / (27 : Int64)))), none, some (.inl z22)] _ _ _
        refine hA_goto (zs_goto em223_25 (t := 10) (by decide)) ?_
        obtain ⟨m', rfl⟩ : ∃ m', m = m' + 1 := ⟨m - 1, by omega⟩
        exact ih _ (by omega) _ z22 m' (by rw [al_div (by omega)]; exact (zwx_dm hm).1) (by omega) (by omega) (by omega) rfl
  refine hmet (L := [some (.inr (.inr x)), none, some (.inl a), none, none, none]) (by decide) (Nat.le_of_ble_eq_true rfl) hc rfl ?_
  refine hA_lload (zs_lload_n em223_0) rfl ?_
  refine hA_lstore (L' := [some (.inr (.inr x)), none, some (.inl a), some (.inr (.inr x)), none, none]) (zs_lstore_n em223_1) ⟨Nat.le_of_ble_eq_true rfl, rfl⟩ rfl ?_
  refine hA_lload (zs_lload_n em223_2) rfl ?_
  refine hA_call (as := [.inr (.inr x)]) (rest := []) (B' := (0, 0)) (zs_invS em223_3 zl_254 wd_1571 wd_1572 ((congrFun xo_12 280).trans rfl) xm_222) rfl (Nat.le_of_ble_eq_true rfl) rfl ⟨Nat.zero_le _, Nat.zero_le _⟩ (hpre_of rfl (show hpr_254 d [.inr (.inr x)] I from ⟨by show 1 ≤ d; omega, x, rfl, ⟨c0, hc0, hzw⟩⟩)) (fun r3 I3 hp3 => ?_)
  replace hp3 : hpo_254 _ _ _ _ := hpost_of rfl hp3
  replace hp3 := hp3 x rfl
  obtain ⟨y3, rfl, rfl, c1, hc1, hw1, hy3⟩ := hp3
  have hcc := zwx_uq hzw hw1
  refine hA_const (k := 1) (zs_iconst (v := 1) em223_6 (by decide +kernel)) (by decide +kernel) (fun z6 hz6 => ?_)
  refine hA_sub (zs_isub em223_7) (by omega) (by omega) (fun z7 hz7 => ?_)
  refine hA_istore (L' := [some (.inr (.inr x)), none, some (.inl a), some (.inr (.inr x)), none, some (.inl z7)]) (zs_istore em223_8) ⟨Nat.le_of_ble_eq_true rfl, rfl⟩ rfl ?_
  exact loop _ _ z7 c1 hw1 (by omega) (by omega) (by omega) rfl
