theorem em215_0 : decode prog_14_method_11_code 0 = .ok (.aload_n 0, 1) := by decide +kernel
theorem em215_1 : decode prog_14_method_11_code 1 = .ok (.getfield 20, 3) := by decide +kernel
theorem em215_4 : decode prog_14_method_11_code 4 = .ok (.aload_n 0, 1) := by decide +kernel
theorem em215_5 : decode prog_14_method_11_code 5 = .ok (.getfield 178, 3) := by decide +kernel
theorem em215_8 : decode prog_14_method_11_code 8 = .ok (.iload_n 1, 1) := by decide +kernel
theorem em215_9 : decode prog_14_method_11_code 9 = .ok (.iastore, 1) := by decide +kernel
theorem em215_10 : decode prog_14_method_11_code 10 = .ok (.aload_n 0, 1) := by decide +kernel
theorem em215_11 : decode prog_14_method_11_code 11 = .ok (.getfield 24, 3) := by decide +kernel
theorem em215_14 : decode prog_14_method_11_code 14 = .ok (.aload_n 0, 1) := by decide +kernel
theorem em215_15 : decode prog_14_method_11_code 15 = .ok (.getfield 178, 3) := by decide +kernel
theorem em215_18 : decode prog_14_method_11_code 18 = .ok (.iload_n 2, 1) := by decide +kernel
theorem em215_19 : decode prog_14_method_11_code 19 = .ok (.iastore, 1) := by decide +kernel
theorem em215_20 : decode prog_14_method_11_code 20 = .ok (.aload_n 0, 1) := by decide +kernel
theorem em215_21 : decode prog_14_method_11_code 21 = .ok (.getfield 27, 3) := by decide +kernel
theorem em215_24 : decode prog_14_method_11_code 24 = .ok (.aload_n 0, 1) := by decide +kernel
theorem em215_25 : decode prog_14_method_11_code 25 = .ok (.getfield 178, 3) := by decide +kernel
theorem em215_28 : decode prog_14_method_11_code 28 = .ok (.iload_n 3, 1) := by decide +kernel
theorem em215_29 : decode prog_14_method_11_code 29 = .ok (.iastore, 1) := by decide +kernel
theorem em215_30 : decode prog_14_method_11_code 30 = .ok (.aload_n 0, 1) := by decide +kernel
theorem em215_31 : decode prog_14_method_11_code 31 = .ok (.getfield 30, 3) := by decide +kernel
theorem em215_34 : decode prog_14_method_11_code 34 = .ok (.aload_n 0, 1) := by decide +kernel
theorem em215_35 : decode prog_14_method_11_code 35 = .ok (.getfield 178, 3) := by decide +kernel
theorem em215_38 : decode prog_14_method_11_code 38 = .ok (.lload 4, 2) := by decide +kernel
theorem em215_40 : decode prog_14_method_11_code 40 = .ok (.lastore, 1) := by decide +kernel
theorem em215_41 : decode prog_14_method_11_code 41 = .ok (.aload_n 0, 1) := by decide +kernel
theorem em215_42 : decode prog_14_method_11_code 42 = .ok (.dup, 1) := by decide +kernel
theorem em215_43 : decode prog_14_method_11_code 43 = .ok (.getfield 178, 3) := by decide +kernel
theorem em215_46 : decode prog_14_method_11_code 46 = .ok (.iconst 1, 1) := by decide +kernel
theorem em215_47 : decode prog_14_method_11_code 47 = .ok (.iadd, 1) := by decide +kernel
theorem em215_48 : decode prog_14_method_11_code 48 = .ok (.putfield 178, 3) := by decide +kernel
theorem em215_51 : decode prog_14_method_11_code 51 = .ok (.return_, 1) := by decide +kernel
set_option maxRecDepth 10000 in
set_option maxHeartbeats 4000000 in
theorem hM_247 : zOKx 247 := by
  intro d hc as I q h hq
  have h : hpr_247 (d + 1) as I := h
  obtain ⟨hd, a, b, c, x, rfl, hpre⟩ := h
  cases (show some _ = some q from hq)
  obtain ⟨⟨hp0, hp1⟩, hx⟩ := hpre
  refine hmet (L := [some (.inr (.inl (some 75))), some (.inl a), some (.inl b), some (.inl c), some (.inr (.inr x)), none]) (by decide) (Nat.le_of_ble_eq_true rfl) hc rfl ?_
  refine hA_aload (zs_aload_n em215_0) rfl ?_
  refine hA_getf2 (r := 78) (zs_getf (T := TX12) (M := 70) (ci := 12) (j := 19) em215_1 rfl inX12 (by decide) wd_1286 ((congrFun xo_12 20).trans rfl)) ⟨_, rfl, rfl⟩ ?_
  refine hA_aload (zs_aload_n em215_4) rfl ?_
  refine hA_getf0 (id := 11) (zs_getf (T := TX12) (M := 70) (ci := 12) (j := 24) em215_5 rfl inX12 (by decide) wd_1291 ((congrFun xo_12 178).trans rfl)) ⟨_, rfl, rfl⟩ (fun z5 hz5 => ?_)
  refine hA_iload (zs_iload_n em215_8) rfl ?_
  refine hA_iast (kd := 78) (len := 403) (zs_iast zInj0 em215_9) ⟨rfl, rfl, rfl⟩ (by omega) (by show _ < ((403 : Nat) : Int); omega) ?_
  refine hA_aload (zs_aload_n em215_10) rfl ?_
  refine hA_getf2 (r := 79) (zs_getf (T := TX12) (M := 70) (ci := 12) (j := 20) em215_11 rfl inX12 (by decide) wd_1287 ((congrFun xo_12 24).trans rfl)) ⟨_, rfl, rfl⟩ ?_
  refine hA_aload (zs_aload_n em215_14) rfl ?_
  refine hA_getf0 (id := 11) (zs_getf (T := TX12) (M := 70) (ci := 12) (j := 24) em215_15 rfl inX12 (by decide) wd_1291 ((congrFun xo_12 178).trans rfl)) ⟨_, rfl, rfl⟩ (fun z15 hz15 => ?_)
  rw [zf_arr _ _ _ _ _ (by decide)] at hz15
  refine hA_iload (zs_iload_n em215_18) rfl ?_
  refine hA_iastH (kd := 79) (len := 403) (zs_iast zInj0 em215_19) ⟨rfl, rfl, rfl⟩ (by omega) (by show _ < ((403 : Nat) : Int); omega) (eno rfl) ?_
  refine hA_aload (zs_aload_n em215_20) rfl ?_
  refine hA_getf2 (r := 80) (zs_getf (T := TX12) (M := 70) (ci := 12) (j := 21) em215_21 rfl inX12 (by decide) wd_1288 ((congrFun xo_12 27).trans rfl)) ⟨_, rfl, rfl⟩ ?_
  refine hA_aload (zs_aload_n em215_24) rfl ?_
  refine hA_getf0 (id := 11) (zs_getf (T := TX12) (M := 70) (ci := 12) (j := 24) em215_25 rfl inX12 (by decide) wd_1291 ((congrFun xo_12 178).trans rfl)) ⟨_, rfl, rfl⟩ (fun z25 hz25 => ?_)
  rw [zf_arr _ _ _ _ _ (by decide)] at hz25
  refine hA_iload (zs_iload_n em215_28) rfl ?_
  refine hA_iastH (kd := 80) (len := 403) (zs_iast zInj0 em215_29) ⟨rfl, rfl, rfl⟩ (by omega) (by show _ < ((403 : Nat) : Int); omega) (eno rfl) ?_
  refine hA_aload (zs_aload_n em215_30) rfl ?_
  refine hA_getf2 (r := 81) (zs_getf (T := TX12) (M := 70) (ci := 12) (j := 22) em215_31 rfl inX12 (by decide) wd_1289 ((congrFun xo_12 30).trans rfl)) ⟨_, rfl, rfl⟩ ?_
  refine hA_aload (zs_aload_n em215_34) rfl ?_
  refine hA_getf0 (id := 11) (zs_getf (T := TX12) (M := 70) (ci := 12) (j := 24) em215_35 rfl inX12 (by decide) wd_1291 ((congrFun xo_12 178).trans rfl)) ⟨_, rfl, rfl⟩ (fun z35 hz35 => ?_)
  rw [zf_arr _ _ _ _ _ (by decide)] at hz35
  refine hA_lload (zs_lload em215_38) rfl ?_
  refine hA_last (kd := 81) (len := 403) (zs_last em215_40) ⟨rfl, rfl⟩ (by omega) (by show _ < ((403 : Nat) : Int); omega) (fun _ => hx) ?_
  refine hA_aload (zs_aload_n em215_41) rfl ?_
  refine hA_dup (zs_dup em215_42) rfl ?_
  refine hA_getf0 (id := 11) (zs_getf (T := TX12) (M := 70) (ci := 12) (j := 24) em215_43 rfl inX12 (by decide) wd_1291 ((congrFun xo_12 178).trans rfl)) ⟨_, rfl, rfl⟩ (fun z43 hz43 => ?_)
  rw [zf_arr _ _ _ _ _ (by decide)] at hz43
  refine hA_const (k := 1) (zs_iconst (v := 1) em215_46 (by decide +kernel)) (by decide +kernel) (fun z46 hz46 => ?_)
  refine hA_add (zs_iadd em215_47) (by omega) (by omega) (fun z47 hz47 => ?_)
  refine hA_puti0 (id := 11) (zs_puti zInj0 (T := TX12) (M := 70) (ty := tyX12) (ci := 12) (j := 24) (kd := 0) em215_48 rfl inX12 tyX12_ok nmX12 (by decide) wd_1291 (Or.inl ⟨rfl, rfl⟩) rfl ((congrFun xo_12 178).trans rfl)) ⟨_, rfl, rfl⟩ (fun h => by cases h) ?_
  refine hA_return ⟨rfl, em215_51⟩ ⟨Nat.le_refl _, Nat.le_refl _⟩ ?_
  intro a' b' c' x' he
  cases he
  exact ⟨rfl, z5, z47, by omega, by omega, rfl⟩
set_option maxRecDepth 10000 in
set_option maxHeartbeats 4000000 in
theorem hM_281 : zOKx 281 := by
  intro d hc as I q h hq
  have h : hpr_281 (d + 1) as I := h
  obtain ⟨hd, rfl, hpre⟩ := h
  cases (show some _ = some q from hq)
  obtain ⟨⟨h12a, h12b⟩, h13a, ⟨h15a, h15b⟩, hInv⟩ := hpre
  have loop : ∀ (n : Nat) (IJ : zI) (hJ : ∀ id, id ≠ 12 → id ≠ 13 → IJ id = I id) (hInvJ : zInv IJ) (hj13 : 0 ≤ zf IJ 13) (hj12 : zf I 12 ≤ zf IJ 12 ∧ zf IJ 12 ≤ 400) (hjn : ¬ zf I 13 = 0 → ¬ zf IJ 13 = 0) (hjf : zf IJ 13 = 0 → zf I 13 = 0 ∧ zf IJ 12 = zf I 12 + 1) (tk : Int32) (htk : tk.toInt = zf I 12) (k : Int32) (hk : 0 ≤ k.toInt), (13 - k.toInt).toNat = n → zAt zG0 PZ zbd zpre zpost (d, (zbd 281).1, (zbd 281).2) prog_14_method_25_code "CapitalCaseModel" (zRet prog_14_method_25_code (some .int) (zbd 281) (hpost 281 [.inr (.inl (some 75))] I)) 12 [some (.inr (.inl (some 75))), some (.inl tk), some (.inl k)] [] IJ (0, 0) := by
    intro n
    induction n using Nat.strongRecOn with
    | ind n ih =>
      intro IJ hJ hInvJ hj13 hj12 hjn hjf tk htk k hk hn
      have hJ15 : zf IJ 15 = zf I 15 := by unfold zf; rw [hJ 15 (by decide) (by decide)]
      refine hA_iload (zs_iload_n em170_12) rfl ?_
      refine hA_aload (zs_aload_n em170_13) rfl ?_
      refine hA_getf0 (id := 15) (zs_getf (T := TX12) (M := 70) (ci := 12) (j := 33) em170_14 rfl inX12 (by decide) wd_1301 ((congrFun xo_12 236).trans rfl)) ⟨_, rfl, rfl⟩ (fun z14 hz14 => ?_)
      refine hA_icmp (zs_icmpge em170_17 (t := 55) (by decide)) (fun (c17 : z14.toInt ≤ k.toInt) => ?_) (fun (c17 : ¬ z14.toInt ≤ k.toInt) => ?_)
      · refine hA_iload (zs_iload_n em170_55) rfl ?_
        refine hA_ireturn ⟨rfl, em170_56⟩ ⟨Nat.le_refl _, Nat.le_refl _⟩ ?_
        intro he
        cases he
        exact ⟨_, rfl, htk, hInvJ, hJ, hj13, hj12, hjn, hjf⟩
      · refine hA_aload (zs_aload_n em170_20) rfl ?_
        refine hA_getf0 (id := 13) (zs_getf (T := TX12) (M := 70) (ci := 12) (j := 27) em170_21 rfl inX12 (by decide) wd_1294 ((congrFun xo_12 200).trans rfl)) ⟨_, rfl, rfl⟩ (fun z21 hz21 => ?_)
        refine hA_if (zs_ifne em170_24 (t := 55) (by decide)) (fun (c24 : ¬ z21.toInt = 0) => ?_) (fun (c24 : ¬ ¬ z21.toInt = 0) => ?_)
        · refine hA_iload (zs_iload_n em170_55) rfl ?_
          refine hA_ireturn ⟨rfl, em170_56⟩ ⟨Nat.le_refl _, Nat.le_refl _⟩ ?_
          intro he
          cases he
          exact ⟨_, rfl, htk, hInvJ, hJ, hj13, hj12, hjn, hjf⟩
        · refine hA_aload (zs_aload_n em170_27) rfl ?_
          refine hA_getf2 (r := 83) (zs_getf (T := TX12) (M := 70) (ci := 12) (j := 34) em170_28 rfl inX12 (by decide) wd_1302 ((congrFun xo_12 40).trans rfl)) ⟨_, rfl, rfl⟩ ?_
          refine hA_iload (zs_iload_n em170_31) rfl ?_
          refine hA_lald (kd := 83) (len := 12) (zs_lald em170_32) ⟨rfl, rfl⟩ (by omega) (by show _ < ((12 : Nat) : Int); omega) (fun z32 hz32 => ?_)
          refine hA_aload (zs_aload_n em170_33) rfl ?_
          refine hA_getf2 (r := 81) (zs_getf (T := TX12) (M := 70) (ci := 12) (j := 22) em170_34 rfl inX12 (by decide) wd_1289 ((congrFun xo_12 30).trans rfl)) ⟨_, rfl, rfl⟩ ?_
          refine hA_iload (zs_iload_n em170_37) rfl ?_
          refine hA_lald (kd := 81) (len := 403) (zs_lald em170_38) ⟨rfl, rfl⟩ (by omega) (by show _ < ((403 : Nat) : Int); omega) (fun z38 hz38 => ?_)
          refine hA (zs_lcmp em170_39) ?_
          show zAt _ _ _ _ _ _ _ _ _ _ _ (.inl (lg_cmp (z32) (z38)) :: _) _ _
          generalize hz39 : lg_cmp (z32) (z38) = z39
          refine hA_if (zs_ifne em170_40 (t := 49) (by decide)) (fun (c40 : ¬ z39.toInt = 0) => ?_) (fun (c40 : ¬ ¬ z39.toInt = 0) => ?_)
          · refine hA_iinc (c := 1) (zs_iinc (k := 1) em170_49 (by decide +kernel)) (by decide +kernel) rfl ⟨Nat.le_of_ble_eq_true rfl, rfl⟩ (by omega) (by omega) (fun z49 hz49 => ?_)
            show zAt _ _ _ _ _ _ _ _ _ _ [some (.inr (.inl (some 75))), some (.inl tk), some (.inl z49)] _ _ _
            refine hA_goto (zs_goto em170_52 (t := 12) (by decide)) ?_
            exact ih _ (by omega) IJ hJ hInvJ hj13 hj12 hjn hjf tk htk z49 (by omega) rfl
          · refine hA_aload (zs_aload_n em170_43) rfl ?_
            refine hA_const (k := 3) (zs_iconst (v := 3) em170_44 (by decide +kernel)) (by decide +kernel) (fun z44 hz44 => ?_)
            refine hA_iload (zs_iload_n em170_45) rfl ?_
            refine hA_callV (as := [.inl z44, .inl tk]) (rest := []) (B' := (0, 0)) (zs_invV (T := TX12) em170_46 zl_231 rfl wd_1563 wd_1565 wd_60 ((congrFun xo_12 277).trans rfl) xm_204) rfl ⟨_, rfl⟩ (Nat.le_of_ble_eq_true rfl) rfl ⟨Nat.zero_le _, Nat.zero_le _⟩ (zpre_of zh_231 ⟨(by show 1 ≤ d; omega), ⟨_, _, rfl, rfl, ⟨_, _, rfl, ⟨_, rfl, show (1 : Int) ≤ z44.toInt by omega, show z44.toInt ≤ (6 : Int) by omega⟩, ⟨_, _, rfl, ⟨_, rfl, show (0 : Int) ≤ tk.toInt by omega, show tk.toInt ≤ (400 : Int) by omega⟩, rfl⟩⟩⟩, (hF_cons (lo := 0) (hi := 2147483647) ⟨by omega, by exact an_hi _⟩ hF_nil), fun h => by cases h⟩) (fun r46 I46 hp46 => ?_)
            replace hp46 := zpost_of zh_231 hp46
            obtain ⟨rfl, rfl⟩ := zq_231 hp46
            refine hA_iinc (c := 1) (zs_iinc (k := 1) em170_49 (by decide +kernel)) (by decide +kernel) rfl ⟨Nat.le_of_ble_eq_true rfl, rfl⟩ (by omega) (by omega) (fun z49' hz49' => ?_)
            show zAt _ _ _ _ _ _ _ _ _ _ [some (.inr (.inl (some 75))), some (.inl tk), some (.inl z49')] _ _ _
            refine hA_goto (zs_goto em170_52 (t := 12) (by decide)) ?_
            exact ih _ (by omega) IJ hJ hInvJ hj13 hj12 hjn hjf tk htk z49' (by omega) rfl
  refine hmet (L := [some (.inr (.inl (some 75))), none, none]) (by decide) (Nat.le_of_ble_eq_true rfl) hc rfl ?_
  refine hA_aload (zs_aload_n em170_0) rfl ?_
  refine hA_getf0 (id := 12) (zs_getf (T := TX12) (M := 70) (ci := 12) (j := 25) em170_1 rfl inX12 (by decide) wd_1292 ((congrFun xo_12 203).trans rfl)) ⟨_, rfl, rfl⟩ (fun z1 hz1 => ?_)
  refine hA_istore (L' := [some (.inr (.inl (some 75))), some (.inl z1), none]) (zs_istore_n em170_4) ⟨Nat.le_of_ble_eq_true rfl, rfl⟩ rfl ?_
  refine hA_aload (zs_aload_n em170_5) rfl ?_
  refine hA_const (k := 1) (zs_iconst (v := 1) em170_6 (by decide +kernel)) (by decide +kernel) (fun z6 hz6 => ?_)
  refine hA_callV (as := [.inl z6]) (rest := []) (B' := (0, 0)) (zs_invV (T := TX12) em170_7 zl_196 rfl wd_1559 wd_1561 wd_59 ((congrFun xo_12 258).trans rfl) xm_169) rfl ⟨_, rfl⟩ (Nat.le_of_ble_eq_true rfl) rfl ⟨Nat.zero_le _, Nat.zero_le _⟩ (zpre_of zh_196 ⟨(by show 3 ≤ d; omega), ⟨_, _, rfl, rfl, ⟨_, _, rfl, ⟨_, rfl, show (0 : Int) ≤ z6.toInt by omega, show z6.toInt ≤ (40 : Int) by omega⟩, rfl⟩⟩, (hF_cons (lo := 0) (hi := 400) ⟨by omega, by omega⟩ (hF_cons (lo := 0) (hi := 2147483647) ⟨by omega, by exact an_hi _⟩ hF_nil)), fun _ => hInv⟩) (fun r7 I7 hp7 => ?_)
  replace hp7 := zpost_of zh_196 hp7
  rcases zq_196 hp7 with ⟨v7_12, v7_13, rfl, rfl, hv7_12e, hv7_12l, hv7_12h, hv7_13e, hv7_13l, hv7_13h, hInv7⟩ | ⟨v7_13', rfl, rfl, hv7_13'e, hv7_13'l, hv7_13'h, hInv7⟩ | ⟨v7_13'', rfl, rfl, hv7_13''l, hv7_13''h, hInv7⟩
  · refine hA_const (k := 0) (zs_iconst (v := 0) em170_10 (by decide +kernel)) (by decide +kernel) (fun z10 hz10 => ?_)
    refine hA_istore (L' := [some (.inr (.inl (some 75))), some (.inl z1), some (.inl z10)]) (zs_istore_n em170_11) ⟨Nat.le_of_ble_eq_true rfl, rfl⟩ rfl ?_
    exact loop _ (zupd (zupd I 12 v7_12) 13 v7_13) (fun id h12 h13 => ((zupd_fr h13).trans ((zupd_fr h12).trans rfl))) (zextp _ 13 _ rfl (by decide) (zextp _ 12 _ rfl (by decide) hInv)) (by rw [zf_same]; omega) ⟨by rw [zf_ne (by decide), zf_same]; omega, by rw [zf_ne (by decide), zf_same]; omega⟩ (fun h => by rw [zf_same]; omega) (fun h => by rw [zf_same] at h; refine ⟨by omega, ?_⟩; rw [zf_ne (by decide), zf_same]; omega) z1 (by omega) z10 (by omega) rfl
  · refine hA_const (k := 0) (zs_iconst (v := 0) em170_10 (by decide +kernel)) (by decide +kernel) (fun z10' hz10' => ?_)
    refine hA_istore (L' := [some (.inr (.inl (some 75))), some (.inl z1), some (.inl z10')]) (zs_istore_n em170_11) ⟨Nat.le_of_ble_eq_true rfl, rfl⟩ rfl ?_
    exact loop _ (zupd I 13 v7_13') (fun id h12 h13 => ((zupd_fr h13).trans rfl)) (zextp _ 13 _ rfl (by decide) hInv) (by rw [zf_same]; omega) ⟨by rw [zf_ne (by decide)]; omega, by rw [zf_ne (by decide)]; omega⟩ (fun h => by rw [zf_same]; omega) (fun h => by rw [zf_same] at h; refine ⟨by omega, ?_⟩; rw [zf_ne (by decide)]; omega) z1 (by omega) z10' (by omega) rfl
  · refine hA_const (k := 0) (zs_iconst (v := 0) em170_10 (by decide +kernel)) (by decide +kernel) (fun z10'' hz10'' => ?_)
    refine hA_istore (L' := [some (.inr (.inl (some 75))), some (.inl z1), some (.inl z10'')]) (zs_istore_n em170_11) ⟨Nat.le_of_ble_eq_true rfl, rfl⟩ rfl ?_
    exact loop _ (zupd I 13 v7_13'') (fun id h12 h13 => ((zupd_fr h13).trans rfl)) (zextp _ 13 _ rfl (by decide) hInv) (by rw [zf_same]; omega) ⟨by rw [zf_ne (by decide)]; omega, by rw [zf_ne (by decide)]; omega⟩ (fun h => by rw [zf_same]; omega) (fun h => by rw [zf_same] at h; refine ⟨by omega, ?_⟩; rw [zf_ne (by decide)]; omega) z1 (by omega) z10'' (by omega) rfl
theorem em220_0 : decode prog_14_method_26_code 0 = .ok (.aload_n 0, 1) := by decide +kernel
theorem em220_1 : decode prog_14_method_26_code 1 = .ok (.iconst 4, 1) := by decide +kernel
theorem em220_2 : decode prog_14_method_26_code 2 = .ok (.invokevirtual 258, 3) := by decide +kernel
theorem em220_5 : decode prog_14_method_26_code 5 = .ok (.aload_n 0, 1) := by decide +kernel
theorem em220_6 : decode prog_14_method_26_code 6 = .ok (.getfield 200, 3) := by decide +kernel
theorem em220_9 : decode prog_14_method_26_code 9 = .ok (.ifCond .le 4, 3) := by decide +kernel
theorem em220_12 : decode prog_14_method_26_code 12 = .ok (.return_, 1) := by decide +kernel
theorem em220_13 : decode prog_14_method_26_code 13 = .ok (.aload_n 0, 1) := by decide +kernel
theorem em220_14 : decode prog_14_method_26_code 14 = .ok (.getfield 40, 3) := by decide +kernel
theorem em220_17 : decode prog_14_method_26_code 17 = .ok (.aload_n 0, 1) := by decide +kernel
theorem em220_18 : decode prog_14_method_26_code 18 = .ok (.getfield 236, 3) := by decide +kernel
theorem em220_21 : decode prog_14_method_26_code 21 = .ok (.aload_n 0, 1) := by decide +kernel
theorem em220_22 : decode prog_14_method_26_code 22 = .ok (.getfield 30, 3) := by decide +kernel
theorem em220_25 : decode prog_14_method_26_code 25 = .ok (.iload_n 1, 1) := by decide +kernel
theorem em220_26 : decode prog_14_method_26_code 26 = .ok (.laload, 1) := by decide +kernel
theorem em220_27 : decode prog_14_method_26_code 27 = .ok (.lastore, 1) := by decide +kernel
theorem em220_28 : decode prog_14_method_26_code 28 = .ok (.aload_n 0, 1) := by decide +kernel
theorem em220_29 : decode prog_14_method_26_code 29 = .ok (.dup, 1) := by decide +kernel
theorem em220_30 : decode prog_14_method_26_code 30 = .ok (.getfield 236, 3) := by decide +kernel
theorem em220_33 : decode prog_14_method_26_code 33 = .ok (.iconst 1, 1) := by decide +kernel
theorem em220_34 : decode prog_14_method_26_code 34 = .ok (.iadd, 1) := by decide +kernel
theorem em220_35 : decode prog_14_method_26_code 35 = .ok (.putfield 236, 3) := by decide +kernel
theorem em220_38 : decode prog_14_method_26_code 38 = .ok (.return_, 1) := by decide +kernel
set_option maxRecDepth 10000 in
set_option maxHeartbeats 4000000 in
theorem hM_252 : zOKx 252 := by
  intro d hc as I q h hq
  have h : hpr_252 (d + 1) as I := h
  obtain ⟨hd, a, rfl, hpre⟩ := h
  cases (show some _ = some q from hq)
  obtain ⟨⟨h12a, h12b⟩, h13a, ⟨h15a, h15b⟩, ⟨ha0, ha1⟩, hInv⟩ := hpre
  refine hmet (L := [some (.inr (.inl (some 75))), some (.inl a)]) (by decide) (Nat.le_of_ble_eq_true rfl) hc rfl ?_
  refine hA_aload (zs_aload_n em220_0) rfl ?_
  refine hA_const (k := 4) (zs_iconst (v := 4) em220_1 (by decide +kernel)) (by decide +kernel) (fun z1 hz1 => ?_)
  refine hA_callV (as := [.inl z1]) (rest := []) (B' := (0, 0)) (zs_invV (T := TX12) em220_2 zl_196 rfl wd_1559 wd_1561 wd_59 ((congrFun xo_12 258).trans rfl) xm_169) rfl ⟨_, rfl⟩ (Nat.le_of_ble_eq_true rfl) rfl ⟨Nat.zero_le _, Nat.zero_le _⟩ (zpre_of zh_196 ⟨(by show 3 ≤ d; omega), ⟨_, _, rfl, rfl, ⟨_, _, rfl, ⟨_, rfl, show (0 : Int) ≤ z1.toInt by omega, show z1.toInt ≤ (40 : Int) by omega⟩, rfl⟩⟩, (hF_cons (lo := 0) (hi := 400) ⟨by omega, by omega⟩ (hF_cons (lo := 0) (hi := 2147483647) ⟨by omega, by exact an_hi _⟩ hF_nil)), fun _ => hInv⟩) (fun r2 I2 hp2 => ?_)
  replace hp2 := zpost_of zh_196 hp2
  rcases zq_196 hp2 with ⟨v2_12, v2_13, rfl, rfl, hv2_12e, hv2_12l, hv2_12h, hv2_13e, hv2_13l, hv2_13h, hInv2⟩ | ⟨v2_13', rfl, rfl, hv2_13'e, hv2_13'l, hv2_13'h, hInv2⟩ | ⟨v2_13'', rfl, rfl, hv2_13''l, hv2_13''h, hInv2⟩
  · refine hA_aload (zs_aload_n em220_5) rfl ?_
    refine hA_getf0 (id := 13) (zs_getf (T := TX12) (M := 70) (ci := 12) (j := 27) em220_6 rfl inX12 (by decide) wd_1294 ((congrFun xo_12 200).trans rfl)) ⟨_, rfl, rfl⟩ (fun z6 hz6 => ?_)
    rw [zf_same] at hz6
    refine hA_if (zs_ifle em220_9 (t := 13) (by decide)) (fun (c9 : z6.toInt ≤ 0) => ?_) (fun (c9 : ¬ z6.toInt ≤ 0) => ?_)
    · have h15c := h15b (by omega)
      refine hA_aload (zs_aload_n em220_13) rfl ?_
      refine hA_getf2 (r := 83) (zs_getf (T := TX12) (M := 70) (ci := 12) (j := 34) em220_14 rfl inX12 (by decide) wd_1302 ((congrFun xo_12 40).trans rfl)) ⟨_, rfl, rfl⟩ ?_
      refine hA_aload (zs_aload_n em220_17) rfl ?_
      refine hA_getf0 (id := 15) (zs_getf (T := TX12) (M := 70) (ci := 12) (j := 33) em220_18 rfl inX12 (by decide) wd_1301 ((congrFun xo_12 236).trans rfl)) ⟨_, rfl, rfl⟩ (fun z18 hz18 => ?_)
      rw [zf_ne (by decide), zf_ne (by decide)] at hz18
      refine hA_aload (zs_aload_n em220_21) rfl ?_
      refine hA_getf2 (r := 81) (zs_getf (T := TX12) (M := 70) (ci := 12) (j := 22) em220_22 rfl inX12 (by decide) wd_1289 ((congrFun xo_12 30).trans rfl)) ⟨_, rfl, rfl⟩ ?_
      refine hA_iload (zs_iload_n em220_25) rfl ?_
      refine hA_lald (kd := 81) (len := 403) (zs_lald em220_26) ⟨rfl, rfl⟩ (by omega) (by show _ < ((403 : Nat) : Int); omega) (fun z26 hz26 => ?_)
      refine hA_last (kd := 83) (len := 12) (zs_last em220_27) ⟨rfl, rfl⟩ (by omega) (by show _ < ((12 : Nat) : Int); omega) (fun h => absurd h (by decide)) ?_
      refine hA_aload (zs_aload_n em220_28) rfl ?_
      refine hA_dup (zs_dup em220_29) rfl ?_
      refine hA_getf0 (id := 15) (zs_getf (T := TX12) (M := 70) (ci := 12) (j := 33) em220_30 rfl inX12 (by decide) wd_1301 ((congrFun xo_12 236).trans rfl)) ⟨_, rfl, rfl⟩ (fun z30 hz30 => ?_)
      rw [zf_ne (by decide), zf_ne (by decide)] at hz30
      refine hA_const (k := 1) (zs_iconst (v := 1) em220_33 (by decide +kernel)) (by decide +kernel) (fun z33 hz33 => ?_)
      refine hA_add (zs_iadd em220_34) (by omega) (by omega) (fun z34 hz34 => ?_)
      refine hA_puti0 (id := 15) (zs_puti zInj0 (T := TX12) (M := 70) (ty := tyX12) (ci := 12) (j := 33) (kd := 0) em220_35 rfl inX12 tyX12_ok nmX12 (by decide) wd_1301 (Or.inl ⟨rfl, rfl⟩) rfl ((congrFun xo_12 236).trans rfl)) ⟨_, rfl, rfl⟩ (fun h => by cases h) ?_
      refine hA_return ⟨rfl, em220_38⟩ ⟨Nat.le_refl _, Nat.le_refl _⟩ ?_
      intro a' he
      cases he
      exact ⟨rfl, (zextp _ 15 _ rfl (by decide) (zextp _ 13 _ rfl (by decide) (zextp _ 12 _ rfl (by decide) hInv))), fun id h12 h13 h15 => ((zupd_fr h15).trans ((zupd_fr h13).trans ((zupd_fr h12).trans rfl))), by rw [zf_ne (by decide), zf_same]; omega, ⟨by rw [zf_ne (by decide), zf_ne (by decide), zf_same]; omega, by rw [zf_ne (by decide), zf_ne (by decide), zf_same]; omega⟩, (fun h => by rw [zf_ne (by decide), zf_same]; omega), (fun h => by rw [zf_ne (by decide), zf_same] at h; exact ⟨by omega, by rw [zf_ne (by decide), zf_ne (by decide), zf_same]; omega⟩), (fun h => by rw [zf_ne (by decide), zf_same] at h; rw [zf_same]; omega), (fun h => by rw [zf_ne (by decide), zf_same] at h; first | (rw [zf_same]; done) | (rw [zf_same]; omega))⟩
    · refine hA_return ⟨rfl, em220_12⟩ ⟨Nat.le_refl _, Nat.le_refl _⟩ ?_
      intro a' he
      cases he
      exact ⟨rfl, (zextp _ 13 _ rfl (by decide) (zextp _ 12 _ rfl (by decide) hInv)), fun id h12 h13 h15 => ((zupd_fr h13).trans ((zupd_fr h12).trans rfl)), by rw [zf_same]; omega, ⟨by rw [zf_ne (by decide), zf_same]; omega, by rw [zf_ne (by decide), zf_same]; omega⟩, (fun h => by rw [zf_same]; omega), (fun h => by rw [zf_same] at h; exact ⟨by omega, by rw [zf_ne (by decide), zf_same]; omega⟩), (fun h => by rw [zf_same] at h; rw [zf_ne (by decide), zf_ne (by decide)]; omega), (fun h => by rw [zf_same] at h; first | (rw [zf_ne (by decide), zf_ne (by decide)]; done) | (rw [zf_ne (by decide), zf_ne (by decide)]; omega))⟩
  · refine hA_aload (zs_aload_n em220_5) rfl ?_
    refine hA_getf0 (id := 13) (zs_getf (T := TX12) (M := 70) (ci := 12) (j := 27) em220_6 rfl inX12 (by decide) wd_1294 ((congrFun xo_12 200).trans rfl)) ⟨_, rfl, rfl⟩ (fun z6' hz6' => ?_)
    rw [zf_same] at hz6'
    refine hA_if (zs_ifle em220_9 (t := 13) (by decide)) (fun (c9' : z6'.toInt ≤ 0) => ?_) (fun (c9' : ¬ z6'.toInt ≤ 0) => ?_)
    · have h15c := h15b (by omega)
      refine hA_aload (zs_aload_n em220_13) rfl ?_
      refine hA_getf2 (r := 83) (zs_getf (T := TX12) (M := 70) (ci := 12) (j := 34) em220_14 rfl inX12 (by decide) wd_1302 ((congrFun xo_12 40).trans rfl)) ⟨_, rfl, rfl⟩ ?_
      refine hA_aload (zs_aload_n em220_17) rfl ?_
      refine hA_getf0 (id := 15) (zs_getf (T := TX12) (M := 70) (ci := 12) (j := 33) em220_18 rfl inX12 (by decide) wd_1301 ((congrFun xo_12 236).trans rfl)) ⟨_, rfl, rfl⟩ (fun z18' hz18' => ?_)
      rw [zf_ne (by decide)] at hz18'
      refine hA_aload (zs_aload_n em220_21) rfl ?_
      refine hA_getf2 (r := 81) (zs_getf (T := TX12) (M := 70) (ci := 12) (j := 22) em220_22 rfl inX12 (by decide) wd_1289 ((congrFun xo_12 30).trans rfl)) ⟨_, rfl, rfl⟩ ?_
      refine hA_iload (zs_iload_n em220_25) rfl ?_
      refine hA_lald (kd := 81) (len := 403) (zs_lald em220_26) ⟨rfl, rfl⟩ (by omega) (by show _ < ((403 : Nat) : Int); omega) (fun z26' hz26' => ?_)
      refine hA_last (kd := 83) (len := 12) (zs_last em220_27) ⟨rfl, rfl⟩ (by omega) (by show _ < ((12 : Nat) : Int); omega) (fun h => absurd h (by decide)) ?_
      refine hA_aload (zs_aload_n em220_28) rfl ?_
      refine hA_dup (zs_dup em220_29) rfl ?_
      refine hA_getf0 (id := 15) (zs_getf (T := TX12) (M := 70) (ci := 12) (j := 33) em220_30 rfl inX12 (by decide) wd_1301 ((congrFun xo_12 236).trans rfl)) ⟨_, rfl, rfl⟩ (fun z30' hz30' => ?_)
      rw [zf_ne (by decide)] at hz30'
      refine hA_const (k := 1) (zs_iconst (v := 1) em220_33 (by decide +kernel)) (by decide +kernel) (fun z33' hz33' => ?_)
      refine hA_add (zs_iadd em220_34) (by omega) (by omega) (fun z34' hz34' => ?_)
      refine hA_puti0 (id := 15) (zs_puti zInj0 (T := TX12) (M := 70) (ty := tyX12) (ci := 12) (j := 33) (kd := 0) em220_35 rfl inX12 tyX12_ok nmX12 (by decide) wd_1301 (Or.inl ⟨rfl, rfl⟩) rfl ((congrFun xo_12 236).trans rfl)) ⟨_, rfl, rfl⟩ (fun h => by cases h) ?_
      refine hA_return ⟨rfl, em220_38⟩ ⟨Nat.le_refl _, Nat.le_refl _⟩ ?_
      intro a' he
      cases he
      exact ⟨rfl, (zextp _ 15 _ rfl (by decide) (zextp _ 13 _ rfl (by decide) hInv)), fun id h12 h13 h15 => ((zupd_fr h15).trans ((zupd_fr h13).trans rfl)), by rw [zf_ne (by decide), zf_same]; omega, ⟨by rw [zf_ne (by decide), zf_ne (by decide)]; omega, by rw [zf_ne (by decide), zf_ne (by decide)]; omega⟩, (fun h => by rw [zf_ne (by decide), zf_same]; omega), (fun h => by rw [zf_ne (by decide), zf_same] at h; exact ⟨by omega, by rw [zf_ne (by decide), zf_ne (by decide)]; omega⟩), (fun h => by rw [zf_ne (by decide), zf_same] at h; rw [zf_same]; omega), (fun h => by rw [zf_ne (by decide), zf_same] at h; first | (rw [zf_same]; done) | (rw [zf_same]; omega))⟩
    · refine hA_return ⟨rfl, em220_12⟩ ⟨Nat.le_refl _, Nat.le_refl _⟩ ?_
      intro a' he
      cases he
      exact ⟨rfl, (zextp _ 13 _ rfl (by decide) hInv), fun id h12 h13 h15 => ((zupd_fr h13).trans rfl), by rw [zf_same]; omega, ⟨by rw [zf_ne (by decide)]; omega, by rw [zf_ne (by decide)]; omega⟩, (fun h => by rw [zf_same]; omega), (fun h => by rw [zf_same] at h; exact ⟨by omega, by rw [zf_ne (by decide)]; omega⟩), (fun h => by rw [zf_same] at h; rw [zf_ne (by decide)]; omega), (fun h => by rw [zf_same] at h; first | (rw [zf_ne (by decide)]; done) | (rw [zf_ne (by decide)]; omega))⟩
  · refine hA_aload (zs_aload_n em220_5) rfl ?_
    refine hA_getf0 (id := 13) (zs_getf (T := TX12) (M := 70) (ci := 12) (j := 27) em220_6 rfl inX12 (by decide) wd_1294 ((congrFun xo_12 200).trans rfl)) ⟨_, rfl, rfl⟩ (fun z6'' hz6'' => ?_)
    rw [zf_same] at hz6''
    refine hA_if (zs_ifle em220_9 (t := 13) (by decide)) (fun (c9'' : z6''.toInt ≤ 0) => ?_) (fun (c9'' : ¬ z6''.toInt ≤ 0) => ?_)
    · have h15c := h15b (by omega)
      refine hA_aload (zs_aload_n em220_13) rfl ?_
      refine hA_getf2 (r := 83) (zs_getf (T := TX12) (M := 70) (ci := 12) (j := 34) em220_14 rfl inX12 (by decide) wd_1302 ((congrFun xo_12 40).trans rfl)) ⟨_, rfl, rfl⟩ ?_
      refine hA_aload (zs_aload_n em220_17) rfl ?_
      refine hA_getf0 (id := 15) (zs_getf (T := TX12) (M := 70) (ci := 12) (j := 33) em220_18 rfl inX12 (by decide) wd_1301 ((congrFun xo_12 236).trans rfl)) ⟨_, rfl, rfl⟩ (fun z18'' hz18'' => ?_)
      rw [zf_ne (by decide)] at hz18''
      refine hA_aload (zs_aload_n em220_21) rfl ?_
      refine hA_getf2 (r := 81) (zs_getf (T := TX12) (M := 70) (ci := 12) (j := 22) em220_22 rfl inX12 (by decide) wd_1289 ((congrFun xo_12 30).trans rfl)) ⟨_, rfl, rfl⟩ ?_
      refine hA_iload (zs_iload_n em220_25) rfl ?_
      refine hA_lald (kd := 81) (len := 403) (zs_lald em220_26) ⟨rfl, rfl⟩ (by omega) (by show _ < ((403 : Nat) : Int); omega) (fun z26'' hz26'' => ?_)
      refine hA_last (kd := 83) (len := 12) (zs_last em220_27) ⟨rfl, rfl⟩ (by omega) (by show _ < ((12 : Nat) : Int); omega) (fun h => absurd h (by decide)) ?_
      refine hA_aload (zs_aload_n em220_28) rfl ?_
      refine hA_dup (zs_dup em220_29) rfl ?_
      refine hA_getf0 (id := 15) (zs_getf (T := TX12) (M := 70) (ci := 12) (j := 33) em220_30 rfl inX12 (by decide) wd_1301 ((congrFun xo_12 236).trans rfl)) ⟨_, rfl, rfl⟩ (fun z30'' hz30'' => ?_)
      rw [zf_ne (by decide)] at hz30''
      refine hA_const (k := 1) (zs_iconst (v := 1) em220_33 (by decide +kernel)) (by decide +kernel) (fun z33'' hz33'' => ?_)
      refine hA_add (zs_iadd em220_34) (by omega) (by omega) (fun z34'' hz34'' => ?_)
      refine hA_puti0 (id := 15) (zs_puti zInj0 (T := TX12) (M := 70) (ty := tyX12) (ci := 12) (j := 33) (kd := 0) em220_35 rfl inX12 tyX12_ok nmX12 (by decide) wd_1301 (Or.inl ⟨rfl, rfl⟩) rfl ((congrFun xo_12 236).trans rfl)) ⟨_, rfl, rfl⟩ (fun h => by cases h) ?_
      refine hA_return ⟨rfl, em220_38⟩ ⟨Nat.le_refl _, Nat.le_refl _⟩ ?_
      intro a' he
      cases he
      exact ⟨rfl, (zextp _ 15 _ rfl (by decide) (zextp _ 13 _ rfl (by decide) hInv)), fun id h12 h13 h15 => ((zupd_fr h15).trans ((zupd_fr h13).trans rfl)), by rw [zf_ne (by decide), zf_same]; omega, ⟨by rw [zf_ne (by decide), zf_ne (by decide)]; omega, by rw [zf_ne (by decide), zf_ne (by decide)]; omega⟩, (fun h => by rw [zf_ne (by decide), zf_same]; omega), (fun h => by rw [zf_ne (by decide), zf_same] at h; exact ⟨by omega, by rw [zf_ne (by decide), zf_ne (by decide)]; omega⟩), (fun h => by rw [zf_ne (by decide), zf_same] at h; rw [zf_same]; omega), (fun h => by rw [zf_ne (by decide), zf_same] at h; first | (rw [zf_same]; done) | (rw [zf_same]; omega))⟩
    · refine hA_return ⟨rfl, em220_12⟩ ⟨Nat.le_refl _, Nat.le_refl _⟩ ?_
      intro a' he
      cases he
      exact ⟨rfl, (zextp _ 13 _ rfl (by decide) hInv), fun id h12 h13 h15 => ((zupd_fr h13).trans rfl), by rw [zf_same]; omega, ⟨by rw [zf_ne (by decide)]; omega, by rw [zf_ne (by decide)]; omega⟩, (fun h => by rw [zf_same]; omega), (fun h => by rw [zf_same] at h; exact ⟨by omega, by rw [zf_ne (by decide)]; omega⟩), (fun h => by rw [zf_same] at h; rw [zf_ne (by decide)]; omega), (fun h => by rw [zf_same] at h; first | (rw [zf_ne (by decide)]; done) | (rw [zf_ne (by decide)]; omega))⟩
