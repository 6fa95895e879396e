theorem em231_0 : decode prog_14_method_38_code 0 = .ok (.aload_n 0, 1) := by decide +kernel
theorem em231_1 : decode prog_14_method_38_code 1 = .ok (.iconst 2, 1) := by decide +kernel
theorem em231_2 : decode prog_14_method_38_code 2 = .ok (.invokevirtual 218, 3) := by decide +kernel
theorem em231_5 : decode prog_14_method_38_code 5 = .ok (.ifCond .eq 24, 3) := by decide +kernel
theorem em231_8 : decode prog_14_method_38_code 8 = .ok (.aload_n 0, 1) := by decide +kernel
theorem em231_9 : decode prog_14_method_38_code 9 = .ok (.iconst 0, 1) := by decide +kernel
theorem em231_10 : decode prog_14_method_38_code 10 = .ok (.aload_n 0, 1) := by decide +kernel
theorem em231_11 : decode prog_14_method_38_code 11 = .ok (.getfield 27, 3) := by decide +kernel
theorem em231_14 : decode prog_14_method_38_code 14 = .ok (.aload_n 0, 1) := by decide +kernel
theorem em231_15 : decode prog_14_method_38_code 15 = .ok (.getfield 203, 3) := by decide +kernel
theorem em231_18 : decode prog_14_method_38_code 18 = .ok (.iaload, 1) := by decide +kernel
theorem em231_19 : decode prog_14_method_38_code 19 = .ok (.invokevirtual 310, 3) := by decide +kernel
theorem em231_22 : decode prog_14_method_38_code 22 = .ok (.aload_n 0, 1) := by decide +kernel
theorem em231_23 : decode prog_14_method_38_code 23 = .ok (.invokevirtual 221, 3) := by decide +kernel
theorem em231_26 : decode prog_14_method_38_code 26 = .ok (.goto 67, 3) := by decide +kernel
theorem em231_29 : decode prog_14_method_38_code 29 = .ok (.aload_n 0, 1) := by decide +kernel
theorem em231_30 : decode prog_14_method_38_code 30 = .ok (.getfield 200, 3) := by decide +kernel
theorem em231_33 : decode prog_14_method_38_code 33 = .ok (.ifCond .ne 55, 3) := by decide +kernel
theorem em231_36 : decode prog_14_method_38_code 36 = .ok (.aload_n 0, 1) := by decide +kernel
theorem em231_37 : decode prog_14_method_38_code 37 = .ok (.getfield 20, 3) := by decide +kernel
theorem em231_40 : decode prog_14_method_38_code 40 = .ok (.aload_n 0, 1) := by decide +kernel
theorem em231_41 : decode prog_14_method_38_code 41 = .ok (.getfield 203, 3) := by decide +kernel
theorem em231_44 : decode prog_14_method_38_code 44 = .ok (.iaload, 1) := by decide +kernel
theorem em231_45 : decode prog_14_method_38_code 45 = .ok (.bipush 32, 2) := by decide +kernel
theorem em231_47 : decode prog_14_method_38_code 47 = .ok (.if_icmp .lt 41, 3) := by decide +kernel
theorem em231_50 : decode prog_14_method_38_code 50 = .ok (.aload_n 0, 1) := by decide +kernel
theorem em231_51 : decode prog_14_method_38_code 51 = .ok (.getfield 20, 3) := by decide +kernel
theorem em231_54 : decode prog_14_method_38_code 54 = .ok (.aload_n 0, 1) := by decide +kernel
theorem em231_55 : decode prog_14_method_38_code 55 = .ok (.getfield 203, 3) := by decide +kernel
theorem em231_58 : decode prog_14_method_38_code 58 = .ok (.iaload, 1) := by decide +kernel
theorem em231_59 : decode prog_14_method_38_code 59 = .ok (.bipush 40, 2) := by decide +kernel
theorem em231_61 : decode prog_14_method_38_code 61 = .ok (.if_icmp .gt 27, 3) := by decide +kernel
theorem em231_64 : decode prog_14_method_38_code 64 = .ok (.aload_n 0, 1) := by decide +kernel
theorem em231_65 : decode prog_14_method_38_code 65 = .ok (.iconst 1, 1) := by decide +kernel
theorem em231_66 : decode prog_14_method_38_code 66 = .ok (.aload_n 0, 1) := by decide +kernel
theorem em231_67 : decode prog_14_method_38_code 67 = .ok (.getfield 20, 3) := by decide +kernel
theorem em231_70 : decode prog_14_method_38_code 70 = .ok (.aload_n 0, 1) := by decide +kernel
theorem em231_71 : decode prog_14_method_38_code 71 = .ok (.getfield 203, 3) := by decide +kernel
theorem em231_74 : decode prog_14_method_38_code 74 = .ok (.iaload, 1) := by decide +kernel
theorem em231_75 : decode prog_14_method_38_code 75 = .ok (.bipush 32, 2) := by decide +kernel
theorem em231_77 : decode prog_14_method_38_code 77 = .ok (.isub, 1) := by decide +kernel
theorem em231_78 : decode prog_14_method_38_code 78 = .ok (.invokevirtual 310, 3) := by decide +kernel
theorem em231_81 : decode prog_14_method_38_code 81 = .ok (.aload_n 0, 1) := by decide +kernel
theorem em231_82 : decode prog_14_method_38_code 82 = .ok (.invokevirtual 221, 3) := by decide +kernel
theorem em231_85 : decode prog_14_method_38_code 85 = .ok (.goto 8, 3) := by decide +kernel
theorem em231_88 : decode prog_14_method_38_code 88 = .ok (.aload_n 0, 1) := by decide +kernel
theorem em231_89 : decode prog_14_method_38_code 89 = .ok (.iconst 1, 1) := by decide +kernel
theorem em231_90 : decode prog_14_method_38_code 90 = .ok (.invokevirtual 215, 3) := by decide +kernel
theorem em231_93 : decode prog_14_method_38_code 93 = .ok (.return_, 1) := by decide +kernel
set_option maxRecDepth 10000 in
set_option maxHeartbeats 4000000 in
theorem hM_263 : zOKx 263 := by
  intro d hc as I q h hq
  have h : hpr_263 (d + 1) as I := h
  obtain ⟨hd, rfl, hpre⟩ := h
  cases (show some _ = some q from hq)
  obtain ⟨⟨h12a, h12b⟩, h13a, h17a, h17b⟩ := hpre
  have hE0 := eFr_rf (I := I) h12b h13a
  refine hmet (L := [some (.inr (.inl (some 75)))]) (by decide) (Nat.le_of_ble_eq_true rfl) hc rfl ?_
  refine hA_aload (zs_aload_n em231_0) rfl ?_
  refine hA_const (k := 2) (zs_iconst (v := 2) em231_1 (by decide +kernel)) (by decide +kernel) (fun z1 hz1 => ?_)
  refine hA_callV (as := [.inl z1]) (rest := []) (B' := (0, 0)) (zs_invV (T := TX12) em231_2 zl_285 rfl wd_1531 wd_1533 wd_52 ((congrFun xo_12 218).trans rfl) xm_149) rfl ⟨_, rfl⟩ (Nat.le_of_ble_eq_true rfl) rfl ⟨Nat.zero_le _, Nat.zero_le _⟩ (hpre_of rfl (show hpr_285 d [.inr (.inl (some 75)), .inl z1] I from ⟨by show 1 ≤ d; omega, z1, rfl, ⟨by omega, by omega⟩⟩)) (fun r2 I2 hp2 => ?_)
  replace hp2 : hpo_285 _ _ _ _ := hpost_of rfl hp2
  obtain ⟨z2, rfl, rfl, ⟨hz2, hz2f, hz2k⟩ | ⟨hz2, hz2k⟩⟩ := hp2 z1 rfl
  · refine hA_if (zs_ifeq em231_5 (t := 29) (by decide)) (fun (c5 : z2.toInt = 0) => ?_) (fun (c5 : ¬ z2.toInt = 0) => ?_)
    · exfalso
      omega
    · refine hA_aload (zs_aload_n em231_8) rfl ?_
      refine hA_const (k := 0) (zs_iconst (v := 0) em231_9 (by decide +kernel)) (by decide +kernel) (fun z9 hz9 => ?_)
      refine hA_aload (zs_aload_n em231_10) rfl ?_
      refine hA_getf2 (r := 80) (zs_getf (T := TX12) (M := 70) (ci := 12) (j := 21) em231_11 rfl inX12 (by decide) wd_1288 ((congrFun xo_12 27).trans rfl)) ⟨_, rfl, rfl⟩ ?_
      refine hA_aload (zs_aload_n em231_14) rfl ?_
      refine hA_getf0 (id := 12) (zs_getf (T := TX12) (M := 70) (ci := 12) (j := 25) em231_15 rfl inX12 (by decide) wd_1292 ((congrFun xo_12 203).trans rfl)) ⟨_, rfl, rfl⟩ (fun z15 hz15 => ?_)
      refine hA_ialdH (kd := 80) (len := 403) (zs_iald em231_18) ⟨rfl, rfl, rfl⟩ (by omega) (by show _ < ((403 : Nat) : Int); omega) (fun z18 hz18 => ?_)
      refine hA_callV (as := [.inl z9, .inl z18]) (rest := []) (B' := (0, 0)) (zs_invV (T := TX12) em231_19 zl_260 rfl wd_1605 wd_1607 wd_69 ((congrFun xo_12 310).trans rfl) xm_228) rfl ⟨_, rfl⟩ (Nat.le_of_ble_eq_true rfl) rfl ⟨Nat.zero_le _, Nat.zero_le _⟩ (hpre_of rfl (show hpr_260 d [.inr (.inl (some 75)), .inl z9, .inl z18] I from ⟨by show 1 ≤ d; omega, z9, z18, rfl, ⟨by omega, by omega⟩⟩)) (fun r19 I19 hp19 => ?_)
      replace hp19 : hpo_260 _ _ _ _ := hpost_of rfl hp19
      replace hp19 := hp19 z9 z18 rfl
      obtain ⟨rfl, i19, u19, hi19, hu19, rfl⟩ := hp19
      refine hA_aload (zs_aload_n em231_22) rfl ?_
      refine hA_callV (as := []) (rest := []) (B' := (0, 0)) (zs_invV (T := TX12) em231_23 zl_151 rfl wd_1547 wd_1549 wd_56 ((congrFun xo_12 221).trans rfl) xm_144) rfl ⟨_, rfl⟩ (Nat.le_of_ble_eq_true rfl) rfl ⟨Nat.zero_le _, Nat.zero_le _⟩ (zpre_of zh_151 ⟨(by show 2 ≤ d; omega), ⟨_, _, rfl, rfl, rfl⟩, (hF_cons (lo := 0) (hi := 400) ⟨by rw [zf_ne (by decide), zf_arr _ _ _ _ _ (by decide), zf_arr _ _ _ _ _ (by decide)]; omega, by rw [zf_ne (by decide), zf_arr _ _ _ _ _ (by decide), zf_arr _ _ _ _ _ (by decide)]; omega⟩ (hF_cons (lo := 0) (hi := 2147483647) ⟨by rw [zf_ne (by decide), zf_arr _ _ _ _ _ (by decide), zf_arr _ _ _ _ _ (by decide)]; omega, by rw [zf_ne (by decide), zf_arr _ _ _ _ _ (by decide), zf_arr _ _ _ _ _ (by decide)]; exact an_hi _⟩ hF_nil)), fun h => by cases h⟩) (fun r23 I23 hp23 => ?_)
      replace hp23 := zpost_of zh_151 hp23
      rcases zq_151 hp23 with ⟨v23_12, v23_13, rfl, rfl, hv23_12e, hv23_12l, hv23_12h, hv23_13e, hv23_13l, hv23_13h⟩ | ⟨v23_12', v23_13', rfl, rfl, hv23_12'e, hv23_12'l, hv23_12'h, hv23_13'l, hv23_13'h⟩ | ⟨v23_12'', rfl, rfl, hv23_12''e, hv23_12''l, hv23_12''h⟩
      · rw [zf_ne (by decide), zf_arr _ _ _ _ _ (by decide), zf_arr _ _ _ _ _ (by decide)] at hv23_12e
        rw [zf_ne (by decide), zf_arr _ _ _ _ _ (by decide), zf_arr _ _ _ _ _ (by decide)] at hv23_13e
        refine hA_goto (zs_goto em231_26 (t := 93) (by decide)) ?_
        refine hA_return ⟨rfl, em231_93⟩ ⟨Nat.le_refl _, Nat.le_refl _⟩ ?_
        intro he
        cases he
        refine ⟨rfl, (eFr_f (eFr_t (eFr_e (x := z9) (y := z18) hE0 (by omega) (by omega) (by omega) (by omega)) (by rw [zf_ne (by decide), zf_arr _ _ _ _ _ (by decide), zf_arr _ _ _ _ _ (by decide)]; omega) (by omega)) (by omega) (by rw [zf_ne (by decide), zf_ne (by decide), zf_arr _ _ _ _ _ (by decide), zf_arr _ _ _ _ _ (by decide)]; omega)), ((zupd_fr (by decide)).trans ((zupd_fr (by decide)).trans ((zupd_fr (by decide)).trans ((zupd_hi2 (by decide)).trans ((zupd_hi2 (by decide)).trans rfl))))), ((zupd_fr (by decide)).trans ((zupd_fr (by decide)).trans ((zupd_fr (by decide)).trans ((zupd_hi2 (by decide)).trans ((zupd_hi2 (by decide)).trans rfl))))), (fun i hi => ((zupd_fr (by unfold zid; omega)).trans ((zupd_fr (by unfold zid; omega)).trans ((zupd_fr (by unfold zid; omega)).trans ((zupd_fr (by unfold zid; omega)).trans ((zupd_fr (by unfold zid; omega)).trans rfl)))))), by rw [zf_ne (by decide), zf_ne (by decide), zf_same]; omega, (fun hnf => by first | (rw [zf_ne (by decide), zf_ne (by decide), zf_same]; done) | (rw [zf_ne (by decide), zf_ne (by decide), zf_same]; omega)), fun h13 => ?_⟩
        rw [zf_same] at h13
        have e101 : zv (zupd (zupd (zupd (zupd (zupd I (zid 101 i19.toInt.toNat) z9) (zid 102 i19.toInt.toNat) z18) 17 u19) 12 v23_12) 13 v23_13) 101 (zf I 17) = z9.toInt := by rw [← hi19, zv_fld _ _ _ _ _ (by decide), zv_fld _ _ _ _ _ (by decide), zv_fld _ _ _ _ _ (by decide), zv_nk (by decide) (by omega) (by omega), zv_at]
        have e102 : zv (zupd (zupd (zupd (zupd (zupd I (zid 101 i19.toInt.toNat) z9) (zid 102 i19.toInt.toNat) z18) 17 u19) 12 v23_12) 13 v23_13) 102 (zf I 17) = z18.toInt := by rw [← hi19, zv_fld _ _ _ _ _ (by decide), zv_fld _ _ _ _ _ (by decide), zv_fld _ _ _ _ _ (by decide), zv_at]
        rw [e101, e102]
        first | (exfalso; omega) | exact ⟨by omega, by rw [zf_ne (by decide), zf_same]; omega, by rw [zf_ne (by decide), zf_ne (by decide), zf_same]; omega, by omega⟩
      · rw [zf_ne (by decide), zf_arr _ _ _ _ _ (by decide), zf_arr _ _ _ _ _ (by decide)] at hv23_12'e
        refine hA_goto (zs_goto em231_26 (t := 93) (by decide)) ?_
        refine hA_return ⟨rfl, em231_93⟩ ⟨Nat.le_refl _, Nat.le_refl _⟩ ?_
        intro he
        cases he
        refine ⟨rfl, (eFr_f (eFr_t (eFr_e (x := z9) (y := z18) hE0 (by omega) (by omega) (by omega) (by omega)) (by rw [zf_ne (by decide), zf_arr _ _ _ _ _ (by decide), zf_arr _ _ _ _ _ (by decide)]; omega) (by omega)) (by omega) (by rw [zf_ne (by decide), zf_ne (by decide), zf_arr _ _ _ _ _ (by decide), zf_arr _ _ _ _ _ (by decide)]; omega)), ((zupd_fr (by decide)).trans ((zupd_fr (by decide)).trans ((zupd_fr (by decide)).trans ((zupd_hi2 (by decide)).trans ((zupd_hi2 (by decide)).trans rfl))))), ((zupd_fr (by decide)).trans ((zupd_fr (by decide)).trans ((zupd_fr (by decide)).trans ((zupd_hi2 (by decide)).trans ((zupd_hi2 (by decide)).trans rfl))))), (fun i hi => ((zupd_fr (by unfold zid; omega)).trans ((zupd_fr (by unfold zid; omega)).trans ((zupd_fr (by unfold zid; omega)).trans ((zupd_fr (by unfold zid; omega)).trans ((zupd_fr (by unfold zid; omega)).trans rfl)))))), by rw [zf_ne (by decide), zf_ne (by decide), zf_same]; omega, (fun hnf => by first | (rw [zf_ne (by decide), zf_ne (by decide), zf_same]; done) | (rw [zf_ne (by decide), zf_ne (by decide), zf_same]; omega)), fun h13 => ?_⟩
        rw [zf_same] at h13
        have e101 : zv (zupd (zupd (zupd (zupd (zupd I (zid 101 i19.toInt.toNat) z9) (zid 102 i19.toInt.toNat) z18) 17 u19) 12 v23_12') 13 v23_13') 101 (zf I 17) = z9.toInt := by rw [← hi19, zv_fld _ _ _ _ _ (by decide), zv_fld _ _ _ _ _ (by decide), zv_fld _ _ _ _ _ (by decide), zv_nk (by decide) (by omega) (by omega), zv_at]
        have e102 : zv (zupd (zupd (zupd (zupd (zupd I (zid 101 i19.toInt.toNat) z9) (zid 102 i19.toInt.toNat) z18) 17 u19) 12 v23_12') 13 v23_13') 102 (zf I 17) = z18.toInt := by rw [← hi19, zv_fld _ _ _ _ _ (by decide), zv_fld _ _ _ _ _ (by decide), zv_fld _ _ _ _ _ (by decide), zv_at]
        rw [e101, e102]
        first | (exfalso; omega) | exact ⟨by omega, by rw [zf_ne (by decide), zf_same]; omega, by rw [zf_ne (by decide), zf_ne (by decide), zf_same]; omega, by omega⟩
      · rw [zf_ne (by decide), zf_arr _ _ _ _ _ (by decide), zf_arr _ _ _ _ _ (by decide)] at hv23_12''e
        refine hA_goto (zs_goto em231_26 (t := 93) (by decide)) ?_
        refine hA_return ⟨rfl, em231_93⟩ ⟨Nat.le_refl _, Nat.le_refl _⟩ ?_
        intro he
        cases he
        refine ⟨rfl, (eFr_t (eFr_e (x := z9) (y := z18) hE0 (by omega) (by omega) (by omega) (by omega)) (by rw [zf_ne (by decide), zf_arr _ _ _ _ _ (by decide), zf_arr _ _ _ _ _ (by decide)]; omega) (by omega)), ((zupd_fr (by decide)).trans ((zupd_fr (by decide)).trans ((zupd_hi2 (by decide)).trans ((zupd_hi2 (by decide)).trans rfl)))), ((zupd_fr (by decide)).trans ((zupd_fr (by decide)).trans ((zupd_hi2 (by decide)).trans ((zupd_hi2 (by decide)).trans rfl)))), (fun i hi => ((zupd_fr (by unfold zid; omega)).trans ((zupd_fr (by unfold zid; omega)).trans ((zupd_fr (by unfold zid; omega)).trans ((zupd_fr (by unfold zid; omega)).trans rfl))))), by rw [zf_ne (by decide), zf_same]; omega, (fun hnf => by first | (rw [zf_ne (by decide), zf_same]; done) | (rw [zf_ne (by decide), zf_same]; omega)), fun h13 => ?_⟩
        rw [zf_ne (by decide), zf_ne (by decide), zf_arr _ _ _ _ _ (by decide), zf_arr _ _ _ _ _ (by decide)] at h13
        have e101 : zv (zupd (zupd (zupd (zupd I (zid 101 i19.toInt.toNat) z9) (zid 102 i19.toInt.toNat) z18) 17 u19) 12 v23_12'') 101 (zf I 17) = z9.toInt := by rw [← hi19, zv_fld _ _ _ _ _ (by decide), zv_fld _ _ _ _ _ (by decide), zv_nk (by decide) (by omega) (by omega), zv_at]
        have e102 : zv (zupd (zupd (zupd (zupd I (zid 101 i19.toInt.toNat) z9) (zid 102 i19.toInt.toNat) z18) 17 u19) 12 v23_12'') 102 (zf I 17) = z18.toInt := by rw [← hi19, zv_fld _ _ _ _ _ (by decide), zv_fld _ _ _ _ _ (by decide), zv_at]
        rw [e101, e102]
        first | (exfalso; omega) | exact ⟨by omega, by rw [zf_same]; omega, by rw [zf_ne (by decide), zf_same]; omega, by omega⟩
  · refine hA_if (zs_ifeq em231_5 (t := 29) (by decide)) (fun (c5' : z2.toInt = 0) => ?_) (fun (c5' : ¬ z2.toInt = 0) => ?_)
    · refine hA_aload (zs_aload_n em231_29) rfl ?_
      refine hA_getf0 (id := 13) (zs_getf (T := TX12) (M := 70) (ci := 12) (j := 27) em231_30 rfl inX12 (by decide) wd_1294 ((congrFun xo_12 200).trans rfl)) ⟨_, rfl, rfl⟩ (fun z30 hz30 => ?_)
      refine hA_if (zs_ifne em231_33 (t := 88) (by decide)) (fun (c33 : ¬ z30.toInt = 0) => ?_) (fun (c33 : ¬ ¬ z30.toInt = 0) => ?_)
      · refine hA_aload (zs_aload_n em231_88) rfl ?_
        refine hA_const (k := 1) (zs_iconst (v := 1) em231_89 (by decide +kernel)) (by decide +kernel) (fun z89 hz89 => ?_)
        refine hA_callV (as := [.inl z89]) (rest := []) (B' := (0, 0)) (zs_invV (T := TX12) em231_90 zl_140 rfl wd_1543 wd_1545 wd_55 ((congrFun xo_12 215).trans rfl) xm_133) rfl ⟨_, rfl⟩ (Nat.le_of_ble_eq_true rfl) rfl ⟨Nat.zero_le _, Nat.zero_le _⟩ (zpre_of zh_140 ⟨(by show 1 ≤ d; omega), ⟨_, _, rfl, rfl, ⟨_, _, rfl, ⟨_, rfl, show (1 : Int) ≤ z89.toInt by omega, show z89.toInt ≤ (6 : Int) by omega⟩, rfl⟩⟩, (hF_cons (lo := 0) (hi := 400) ⟨by omega, by omega⟩ (hF_cons (lo := 0) (hi := 2147483647) ⟨by omega, by exact an_hi _⟩ hF_nil)), fun h => by cases h⟩) (fun r90 I90 hp90 => ?_)
        replace hp90 := zpost_of zh_140 hp90
        rcases zq_140 hp90 with ⟨v90_13, rfl, rfl, hv90_13e, hv90_13l, hv90_13h⟩ | ⟨v90_13', rfl, rfl, hv90_13'l, hv90_13'h⟩
        · refine hA_return ⟨rfl, em231_93⟩ ⟨Nat.le_refl _, Nat.le_refl _⟩ ?_
          intro he
          cases he
          refine ⟨rfl, (eFr_f hE0 (by omega) (by omega)), ((zupd_fr (by decide)).trans rfl), ((zupd_fr (by decide)).trans rfl), (fun i hi => ((zupd_fr (by unfold zid; omega)).trans rfl)), by rw [zf_ne (by decide)]; omega, (fun hnf => by first | (rw [zf_ne (by decide)]; done) | (rw [zf_ne (by decide)]; omega)), fun h13 => ?_⟩
          rw [zf_same] at h13
          exfalso
          omega
        · refine hA_return ⟨rfl, em231_93⟩ ⟨Nat.le_refl _, Nat.le_refl _⟩ ?_
          intro he
          cases he
          refine ⟨rfl, (eFr_f hE0 (by omega) (by omega)), ((zupd_fr (by decide)).trans rfl), ((zupd_fr (by decide)).trans rfl), (fun i hi => ((zupd_fr (by unfold zid; omega)).trans rfl)), by rw [zf_ne (by decide)]; omega, (fun hnf => by first | (rw [zf_ne (by decide)]; done) | (rw [zf_ne (by decide)]; omega)), fun h13 => ?_⟩
          rw [zf_same] at h13
          exfalso
          omega
      · refine hA_aload (zs_aload_n em231_36) rfl ?_
        refine hA_getf2 (r := 78) (zs_getf (T := TX12) (M := 70) (ci := 12) (j := 19) em231_37 rfl inX12 (by decide) wd_1286 ((congrFun xo_12 20).trans rfl)) ⟨_, rfl, rfl⟩ ?_
        refine hA_aload (zs_aload_n em231_40) rfl ?_
        refine hA_getf0 (id := 12) (zs_getf (T := TX12) (M := 70) (ci := 12) (j := 25) em231_41 rfl inX12 (by decide) wd_1292 ((congrFun xo_12 203).trans rfl)) ⟨_, rfl, rfl⟩ (fun z41 hz41 => ?_)
        refine hA_iald (kd := 78) (len := 403) (zs_iald em231_44) ⟨rfl, rfl, rfl⟩ (by omega) (by show _ < ((403 : Nat) : Int); omega) (fun z44 hz44 => ?_)
        rw [hz41] at hz44
        refine hA_const (k := 32) (zs_bipush (v := 32) em231_45 (by decide +kernel)) (by decide +kernel) (fun z45 hz45 => ?_)
        refine hA_icmp (zs_icmplt em231_47 (t := 88) (by decide)) (fun (c47 : z44.toInt < z45.toInt) => ?_) (fun (c47 : ¬ z44.toInt < z45.toInt) => ?_)
        · refine hA_aload (zs_aload_n em231_88) rfl ?_
          refine hA_const (k := 1) (zs_iconst (v := 1) em231_89 (by decide +kernel)) (by decide +kernel) (fun z89' hz89' => ?_)
          refine hA_callV (as := [.inl z89']) (rest := []) (B' := (0, 0)) (zs_invV (T := TX12) em231_90 zl_140 rfl wd_1543 wd_1545 wd_55 ((congrFun xo_12 215).trans rfl) xm_133) rfl ⟨_, rfl⟩ (Nat.le_of_ble_eq_true rfl) rfl ⟨Nat.zero_le _, Nat.zero_le _⟩ (zpre_of zh_140 ⟨(by show 1 ≤ d; omega), ⟨_, _, rfl, rfl, ⟨_, _, rfl, ⟨_, rfl, show (1 : Int) ≤ z89'.toInt by omega, show z89'.toInt ≤ (6 : Int) by omega⟩, rfl⟩⟩, (hF_cons (lo := 0) (hi := 400) ⟨by omega, by omega⟩ (hF_cons (lo := 0) (hi := 2147483647) ⟨by omega, by exact an_hi _⟩ hF_nil)), fun h => by cases h⟩) (fun r90 I90 hp90 => ?_)
          replace hp90 := zpost_of zh_140 hp90
          rcases zq_140 hp90 with ⟨v90_13'', rfl, rfl, hv90_13''e, hv90_13''l, hv90_13''h⟩ | ⟨v90_13_3, rfl, rfl, hv90_13_3l, hv90_13_3h⟩
          · refine hA_return ⟨rfl, em231_93⟩ ⟨Nat.le_refl _, Nat.le_refl _⟩ ?_
            intro he
            cases he
            refine ⟨rfl, (eFr_f hE0 (by omega) (by omega)), ((zupd_fr (by decide)).trans rfl), ((zupd_fr (by decide)).trans rfl), (fun i hi => ((zupd_fr (by unfold zid; omega)).trans rfl)), by rw [zf_ne (by decide)]; omega, (fun hnf => by first | (rw [zf_ne (by decide)]; done) | (rw [zf_ne (by decide)]; omega)), fun h13 => ?_⟩
            rw [zf_same] at h13
            exfalso
            omega
          · refine hA_return ⟨rfl, em231_93⟩ ⟨Nat.le_refl _, Nat.le_refl _⟩ ?_
            intro he
            cases he
            refine ⟨rfl, (eFr_f hE0 (by omega) (by omega)), ((zupd_fr (by decide)).trans rfl), ((zupd_fr (by decide)).trans rfl), (fun i hi => ((zupd_fr (by unfold zid; omega)).trans rfl)), by rw [zf_ne (by decide)]; omega, (fun hnf => by first | (rw [zf_ne (by decide)]; done) | (rw [zf_ne (by decide)]; omega)), fun h13 => ?_⟩
            rw [zf_same] at h13
            exfalso
            omega
        · refine hA_aload (zs_aload_n em231_50) rfl ?_
          refine hA_getf2 (r := 78) (zs_getf (T := TX12) (M := 70) (ci := 12) (j := 19) em231_51 rfl inX12 (by decide) wd_1286 ((congrFun xo_12 20).trans rfl)) ⟨_, rfl, rfl⟩ ?_
          refine hA_aload (zs_aload_n em231_54) rfl ?_
          refine hA_getf0 (id := 12) (zs_getf (T := TX12) (M := 70) (ci := 12) (j := 25) em231_55 rfl inX12 (by decide) wd_1292 ((congrFun xo_12 203).trans rfl)) ⟨_, rfl, rfl⟩ (fun z55 hz55 => ?_)
          refine hA_iald (kd := 78) (len := 403) (zs_iald em231_58) ⟨rfl, rfl, rfl⟩ (by omega) (by show _ < ((403 : Nat) : Int); omega) (fun z58 hz58 => ?_)
          rw [hz55] at hz58
          refine hA_const (k := 40) (zs_bipush (v := 40) em231_59 (by decide +kernel)) (by decide +kernel) (fun z59 hz59 => ?_)
          refine hA_icmp (zs_icmpgt em231_61 (t := 88) (by decide)) (fun (c61 : z59.toInt < z58.toInt) => ?_) (fun (c61 : ¬ z59.toInt < z58.toInt) => ?_)
          · refine hA_aload (zs_aload_n em231_88) rfl ?_
            refine hA_const (k := 1) (zs_iconst (v := 1) em231_89 (by decide +kernel)) (by decide +kernel) (fun z89'' hz89'' => ?_)
            refine hA_callV (as := [.inl z89'']) (rest := []) (B' := (0, 0)) (zs_invV (T := TX12) em231_90 zl_140 rfl wd_1543 wd_1545 wd_55 ((congrFun xo_12 215).trans rfl) xm_133) rfl ⟨_, rfl⟩ (Nat.le_of_ble_eq_true rfl) rfl ⟨Nat.zero_le _, Nat.zero_le _⟩ (zpre_of zh_140 ⟨(by show 1 ≤ d; omega), ⟨_, _, rfl, rfl, ⟨_, _, rfl, ⟨_, rfl, show (1 : Int) ≤ z89''.toInt by omega, show z89''.toInt ≤ (6 : Int) by omega⟩, rfl⟩⟩, (hF_cons (lo := 0) (hi := 400) ⟨by omega, by omega⟩ (hF_cons (lo := 0) (hi := 2147483647) ⟨by omega, by exact an_hi _⟩ hF_nil)), fun h => by cases h⟩) (fun r90 I90 hp90 => ?_)
            replace hp90 := zpost_of zh_140 hp90
            rcases zq_140 hp90 with ⟨v90_13_4, rfl, rfl, hv90_13_4e, hv90_13_4l, hv90_13_4h⟩ | ⟨v90_13_5, rfl, rfl, hv90_13_5l, hv90_13_5h⟩
            · refine hA_return ⟨rfl, em231_93⟩ ⟨Nat.le_refl _, Nat.le_refl _⟩ ?_
              intro he
              cases he
              refine ⟨rfl, (eFr_f hE0 (by omega) (by omega)), ((zupd_fr (by decide)).trans rfl), ((zupd_fr (by decide)).trans rfl), (fun i hi => ((zupd_fr (by unfold zid; omega)).trans rfl)), by rw [zf_ne (by decide)]; omega, (fun hnf => by first | (rw [zf_ne (by decide)]; done) | (rw [zf_ne (by decide)]; omega)), fun h13 => ?_⟩
              rw [zf_same] at h13
              exfalso
              omega
            · refine hA_return ⟨rfl, em231_93⟩ ⟨Nat.le_refl _, Nat.le_refl _⟩ ?_
              intro he
              cases he
              refine ⟨rfl, (eFr_f hE0 (by omega) (by omega)), ((zupd_fr (by decide)).trans rfl), ((zupd_fr (by decide)).trans rfl), (fun i hi => ((zupd_fr (by unfold zid; omega)).trans rfl)), by rw [zf_ne (by decide)]; omega, (fun hnf => by first | (rw [zf_ne (by decide)]; done) | (rw [zf_ne (by decide)]; omega)), fun h13 => ?_⟩
              rw [zf_same] at h13
              exfalso
              omega
          · refine hA_aload (zs_aload_n em231_64) rfl ?_
            refine hA_const (k := 1) (zs_iconst (v := 1) em231_65 (by decide +kernel)) (by decide +kernel) (fun z65 hz65 => ?_)
            refine hA_aload (zs_aload_n em231_66) rfl ?_
            refine hA_getf2 (r := 78) (zs_getf (T := TX12) (M := 70) (ci := 12) (j := 19) em231_67 rfl inX12 (by decide) wd_1286 ((congrFun xo_12 20).trans rfl)) ⟨_, rfl, rfl⟩ ?_
            refine hA_aload (zs_aload_n em231_70) rfl ?_
            refine hA_getf0 (id := 12) (zs_getf (T := TX12) (M := 70) (ci := 12) (j := 25) em231_71 rfl inX12 (by decide) wd_1292 ((congrFun xo_12 203).trans rfl)) ⟨_, rfl, rfl⟩ (fun z71 hz71 => ?_)
            refine hA_iald (kd := 78) (len := 403) (zs_iald em231_74) ⟨rfl, rfl, rfl⟩ (by omega) (by show _ < ((403 : Nat) : Int); omega) (fun z74 hz74 => ?_)
            rw [hz71] at hz74
            refine hA_const (k := 32) (zs_bipush (v := 32) em231_75 (by decide +kernel)) (by decide +kernel) (fun z75 hz75 => ?_)
            refine hA_sub (zs_isub em231_77) (by omega) (by omega) (fun z77 hz77 => ?_)
            refine hA_callV (as := [.inl z65, .inl z77]) (rest := []) (B' := (0, 0)) (zs_invV (T := TX12) em231_78 zl_260 rfl wd_1605 wd_1607 wd_69 ((congrFun xo_12 310).trans rfl) xm_228) rfl ⟨_, rfl⟩ (Nat.le_of_ble_eq_true rfl) rfl ⟨Nat.zero_le _, Nat.zero_le _⟩ (hpre_of rfl (show hpr_260 d [.inr (.inl (some 75)), .inl z65, .inl z77] I from ⟨by show 1 ≤ d; omega, z65, z77, rfl, ⟨by omega, by omega⟩⟩)) (fun r78 I78 hp78 => ?_)
            replace hp78 : hpo_260 _ _ _ _ := hpost_of rfl hp78
            replace hp78 := hp78 z65 z77 rfl
            obtain ⟨rfl, i78, u78, hi78, hu78, rfl⟩ := hp78
            refine hA_aload (zs_aload_n em231_81) rfl ?_
            refine hA_callV (as := []) (rest := []) (B' := (0, 0)) (zs_invV (T := TX12) em231_82 zl_151 rfl wd_1547 wd_1549 wd_56 ((congrFun xo_12 221).trans rfl) xm_144) rfl ⟨_, rfl⟩ (Nat.le_of_ble_eq_true rfl) rfl ⟨Nat.zero_le _, Nat.zero_le _⟩ (zpre_of zh_151 ⟨(by show 2 ≤ d; omega), ⟨_, _, rfl, rfl, rfl⟩, (hF_cons (lo := 0) (hi := 400) ⟨by rw [zf_ne (by decide), zf_arr _ _ _ _ _ (by decide), zf_arr _ _ _ _ _ (by decide)]; omega, by rw [zf_ne (by decide), zf_arr _ _ _ _ _ (by decide), zf_arr _ _ _ _ _ (by decide)]; omega⟩ (hF_cons (lo := 0) (hi := 2147483647) ⟨by rw [zf_ne (by decide), zf_arr _ _ _ _ _ (by decide), zf_arr _ _ _ _ _ (by decide)]; omega, by rw [zf_ne (by decide), zf_arr _ _ _ _ _ (by decide), zf_arr _ _ _ _ _ (by decide)]; exact an_hi _⟩ hF_nil)), fun h => by cases h⟩) (fun r82 I82 hp82 => ?_)
            replace hp82 := zpost_of zh_151 hp82
            rcases zq_151 hp82 with ⟨v82_12, v82_13, rfl, rfl, hv82_12e, hv82_12l, hv82_12h, hv82_13e, hv82_13l, hv82_13h⟩ | ⟨v82_12', v82_13', rfl, rfl, hv82_12'e, hv82_12'l, hv82_12'h, hv82_13'l, hv82_13'h⟩ | ⟨v82_12'', rfl, rfl, hv82_12''e, hv82_12''l, hv82_12''h⟩
            · rw [zf_ne (by decide), zf_arr _ _ _ _ _ (by decide), zf_arr _ _ _ _ _ (by decide)] at hv82_12e
              rw [zf_ne (by decide), zf_arr _ _ _ _ _ (by decide), zf_arr _ _ _ _ _ (by decide)] at hv82_13e
              refine hA_goto (zs_goto em231_85 (t := 93) (by decide)) ?_
              refine hA_return ⟨rfl, em231_93⟩ ⟨Nat.le_refl _, Nat.le_refl _⟩ ?_
              intro he
              cases he
              refine ⟨rfl, (eFr_f (eFr_t (eFr_e (x := z65) (y := z77) hE0 (by omega) (by omega) (by omega) (by omega)) (by rw [zf_ne (by decide), zf_arr _ _ _ _ _ (by decide), zf_arr _ _ _ _ _ (by decide)]; omega) (by omega)) (by omega) (by rw [zf_ne (by decide), zf_ne (by decide), zf_arr _ _ _ _ _ (by decide), zf_arr _ _ _ _ _ (by decide)]; omega)), ((zupd_fr (by decide)).trans ((zupd_fr (by decide)).trans ((zupd_fr (by decide)).trans ((zupd_hi2 (by decide)).trans ((zupd_hi2 (by decide)).trans rfl))))), ((zupd_fr (by decide)).trans ((zupd_fr (by decide)).trans ((zupd_fr (by decide)).trans ((zupd_hi2 (by decide)).trans ((zupd_hi2 (by decide)).trans rfl))))), (fun i hi => ((zupd_fr (by unfold zid; omega)).trans ((zupd_fr (by unfold zid; omega)).trans ((zupd_fr (by unfold zid; omega)).trans ((zupd_fr (by unfold zid; omega)).trans ((zupd_fr (by unfold zid; omega)).trans rfl)))))), by rw [zf_ne (by decide), zf_ne (by decide), zf_same]; omega, (fun hnf => by first | (rw [zf_ne (by decide), zf_ne (by decide), zf_same]; done) | (rw [zf_ne (by decide), zf_ne (by decide), zf_same]; omega)), fun h13 => ?_⟩
              rw [zf_same] at h13
              have e101 : zv (zupd (zupd (zupd (zupd (zupd I (zid 101 i78.toInt.toNat) z65) (zid 102 i78.toInt.toNat) z77) 17 u78) 12 v82_12) 13 v82_13) 101 (zf I 17) = z65.toInt := by rw [← hi78, zv_fld _ _ _ _ _ (by decide), zv_fld _ _ _ _ _ (by decide), zv_fld _ _ _ _ _ (by decide), zv_nk (by decide) (by omega) (by omega), zv_at]
              have e102 : zv (zupd (zupd (zupd (zupd (zupd I (zid 101 i78.toInt.toNat) z65) (zid 102 i78.toInt.toNat) z77) 17 u78) 12 v82_12) 13 v82_13) 102 (zf I 17) = z77.toInt := by rw [← hi78, zv_fld _ _ _ _ _ (by decide), zv_fld _ _ _ _ _ (by decide), zv_fld _ _ _ _ _ (by decide), zv_at]
              rw [e101, e102]
              first | (exfalso; omega) | exact ⟨by omega, by rw [zf_ne (by decide), zf_same]; omega, by rw [zf_ne (by decide), zf_ne (by decide), zf_same]; omega, by omega⟩
            · rw [zf_ne (by decide), zf_arr _ _ _ _ _ (by decide), zf_arr _ _ _ _ _ (by decide)] at hv82_12'e
              refine hA_goto (zs_goto em231_85 (t := 93) (by decide)) ?_
              refine hA_return ⟨rfl, em231_93⟩ ⟨Nat.le_refl _, Nat.le_refl _⟩ ?_
              intro he
              cases he
              refine ⟨rfl, (eFr_f (eFr_t (eFr_e (x := z65) (y := z77) hE0 (by omega) (by omega) (by omega) (by omega)) (by rw [zf_ne (by decide), zf_arr _ _ _ _ _ (by decide), zf_arr _ _ _ _ _ (by decide)]; omega) (by omega)) (by omega) (by rw [zf_ne (by decide), zf_ne (by decide), zf_arr _ _ _ _ _ (by decide), zf_arr _ _ _ _ _ (by decide)]; omega)), ((zupd_fr (by decide)).trans ((zupd_fr (by decide)).trans ((zupd_fr (by decide)).trans ((zupd_hi2 (by decide)).trans ((zupd_hi2 (by decide)).trans rfl))))), ((zupd_fr (by decide)).trans ((zupd_fr (by decide)).trans ((zupd_fr (by decide)).trans ((zupd_hi2 (by decide)).trans ((zupd_hi2 (by decide)).trans rfl))))), (fun i hi => ((zupd_fr (by unfold zid; omega)).trans ((zupd_fr (by unfold zid; omega)).trans ((zupd_fr (by unfold zid; omega)).trans ((zupd_fr (by unfold zid; omega)).trans ((zupd_fr (by unfold zid; omega)).trans rfl)))))), by rw [zf_ne (by decide), zf_ne (by decide), zf_same]; omega, (fun hnf => by first | (rw [zf_ne (by decide), zf_ne (by decide), zf_same]; done) | (rw [zf_ne (by decide), zf_ne (by decide), zf_same]; omega)), fun h13 => ?_⟩
              rw [zf_same] at h13
              have e101 : zv (zupd (zupd (zupd (zupd (zupd I (zid 101 i78.toInt.toNat) z65) (zid 102 i78.toInt.toNat) z77) 17 u78) 12 v82_12') 13 v82_13') 101 (zf I 17) = z65.toInt := by rw [← hi78, zv_fld _ _ _ _ _ (by decide), zv_fld _ _ _ _ _ (by decide), zv_fld _ _ _ _ _ (by decide), zv_nk (by decide) (by omega) (by omega), zv_at]
              have e102 : zv (zupd (zupd (zupd (zupd (zupd I (zid 101 i78.toInt.toNat) z65) (zid 102 i78.toInt.toNat) z77) 17 u78) 12 v82_12') 13 v82_13') 102 (zf I 17) = z77.toInt := by rw [← hi78, zv_fld _ _ _ _ _ (by decide), zv_fld _ _ _ _ _ (by decide), zv_fld _ _ _ _ _ (by decide), zv_at]
              rw [e101, e102]
              first | (exfalso; omega) | exact ⟨by omega, by rw [zf_ne (by decide), zf_same]; omega, by rw [zf_ne (by decide), zf_ne (by decide), zf_same]; omega, by omega⟩
            · rw [zf_ne (by decide), zf_arr _ _ _ _ _ (by decide), zf_arr _ _ _ _ _ (by decide)] at hv82_12''e
              refine hA_goto (zs_goto em231_85 (t := 93) (by decide)) ?_
              refine hA_return ⟨rfl, em231_93⟩ ⟨Nat.le_refl _, Nat.le_refl _⟩ ?_
              intro he
              cases he
              refine ⟨rfl, (eFr_t (eFr_e (x := z65) (y := z77) hE0 (by omega) (by omega) (by omega) (by omega)) (by rw [zf_ne (by decide), zf_arr _ _ _ _ _ (by decide), zf_arr _ _ _ _ _ (by decide)]; omega) (by omega)), ((zupd_fr (by decide)).trans ((zupd_fr (by decide)).trans ((zupd_hi2 (by decide)).trans ((zupd_hi2 (by decide)).trans rfl)))), ((zupd_fr (by decide)).trans ((zupd_fr (by decide)).trans ((zupd_hi2 (by decide)).trans ((zupd_hi2 (by decide)).trans rfl)))), (fun i hi => ((zupd_fr (by unfold zid; omega)).trans ((zupd_fr (by unfold zid; omega)).trans ((zupd_fr (by unfold zid; omega)).trans ((zupd_fr (by unfold zid; omega)).trans rfl))))), by rw [zf_ne (by decide), zf_same]; omega, (fun hnf => by first | (rw [zf_ne (by decide), zf_same]; done) | (rw [zf_ne (by decide), zf_same]; omega)), fun h13 => ?_⟩
              rw [zf_ne (by decide), zf_ne (by decide), zf_arr _ _ _ _ _ (by decide), zf_arr _ _ _ _ _ (by decide)] at h13
              have e101 : zv (zupd (zupd (zupd (zupd I (zid 101 i78.toInt.toNat) z65) (zid 102 i78.toInt.toNat) z77) 17 u78) 12 v82_12'') 101 (zf I 17) = z65.toInt := by rw [← hi78, zv_fld _ _ _ _ _ (by decide), zv_fld _ _ _ _ _ (by decide), zv_nk (by decide) (by omega) (by omega), zv_at]
              have e102 : zv (zupd (zupd (zupd (zupd I (zid 101 i78.toInt.toNat) z65) (zid 102 i78.toInt.toNat) z77) 17 u78) 12 v82_12'') 102 (zf I 17) = z77.toInt := by rw [← hi78, zv_fld _ _ _ _ _ (by decide), zv_fld _ _ _ _ _ (by decide), zv_at]
              rw [e101, e102]
              first | (exfalso; omega) | exact ⟨by omega, by rw [zf_same]; omega, by rw [zf_ne (by decide), zf_same]; omega, by omega⟩
    · exfalso
      omega
