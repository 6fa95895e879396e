theorem em164_0 : decode prog_14_method_55_code 0 = .ok (.iconst 0, 1) := by decide +kernel
theorem em164_1 : decode prog_14_method_55_code 1 = .ok (.istore_n 1, 1) := by decide +kernel
theorem em164_2 : decode prog_14_method_55_code 2 = .ok (.iload_n 1, 1) := by decide +kernel
theorem em164_3 : decode prog_14_method_55_code 3 = .ok (.bipush 9, 2) := by decide +kernel
theorem em164_5 : decode prog_14_method_55_code 5 = .ok (.if_icmp .ge 16, 3) := by decide +kernel
theorem em164_8 : decode prog_14_method_55_code 8 = .ok (.aload_n 0, 1) := by decide +kernel
theorem em164_9 : decode prog_14_method_55_code 9 = .ok (.getfield 107, 3) := by decide +kernel
theorem em164_12 : decode prog_14_method_55_code 12 = .ok (.iload_n 1, 1) := by decide +kernel
theorem em164_13 : decode prog_14_method_55_code 13 = .ok (.iconst 0, 1) := by decide +kernel
theorem em164_14 : decode prog_14_method_55_code 14 = .ok (.iastore, 1) := by decide +kernel
theorem em164_15 : decode prog_14_method_55_code 15 = .ok (.iinc 1 1, 3) := by decide +kernel
theorem em164_18 : decode prog_14_method_55_code 18 = .ok (.goto (-16), 3) := by decide +kernel
theorem em164_21 : decode prog_14_method_55_code 21 = .ok (.aload_n 0, 1) := by decide +kernel
theorem em164_22 : decode prog_14_method_55_code 22 = .ok (.getfield 107, 3) := by decide +kernel
theorem em164_25 : decode prog_14_method_55_code 25 = .ok (.iconst 2, 1) := by decide +kernel
theorem em164_26 : decode prog_14_method_55_code 26 = .ok (.aload_n 0, 1) := by decide +kernel
theorem em164_27 : decode prog_14_method_55_code 27 = .ok (.getfield 116, 3) := by decide +kernel
theorem em164_30 : decode prog_14_method_55_code 30 = .ok (.sipush 386, 3) := by decide +kernel
theorem em164_33 : decode prog_14_method_55_code 33 = .ok (.iaload, 1) := by decide +kernel
theorem em164_34 : decode prog_14_method_55_code 34 = .ok (.iastore, 1) := by decide +kernel
theorem em164_35 : decode prog_14_method_55_code 35 = .ok (.return_, 1) := by decide +kernel
/-! CapitalCaseModel.looks:()V -/
noncomputable def zTr_190 : Nat → Option aF := bn 15 (bn 8 (bn 2 (bn 1 (bl 0 (a_const 0 1)) (bl 1 (a_istore 1 2))) (bn 3 (bl 2 (a_iload 1 3)) (bn 5 (bl 3 (a_const 9 5)) (bl 5 (a_icmp 3 21 8))))) (bn 12 (bn 9 (bl 8 (a_aload 0 9)) (bl 9 (a_getf zG0 zT0 12 56 12))) (bn 13 (bl 12 (a_iload 1 13)) (bn 14 (bl 13 (a_const 0 14)) (bl 14 (a_ast zG0 zT0 ts0 15)))))) (bn 26 (bn 21 (bn 18 (bl 15 (a_iinc 1 1 18)) (bl 18 (a_goto 2))) (bn 22 (bl 21 (a_aload 0 22)) (bn 25 (bl 22 (a_getf zG0 zT0 12 56 25)) (bl 25 (a_const 2 26))))) (bn 30 (bn 27 (bl 26 (a_aload 0 27)) (bl 27 (a_getf zG0 zT0 12 0 30))) (bn 33 (bl 30 (a_const 386 33)) (bn 34 (bl 33 (a_ald zG0 zT0 (false, false) ts0 34)) (bl 34 (a_ast zG0 zT0 ts0 35))))))
set_option maxRecDepth 100000 in
set_option maxHeartbeats 4000000 in
theorem zTo_190 {pre : zPre} {post : zPost} (H : zTieC pre post) {d : Nat × Nat × Nat} (hd : zLe (0, 0, 0) d) : aTr zG0 zT0 zInv (false, false) PZ zbd pre post d prog_14_method_55_code "CapitalCaseModel" zTr_190 := (xB_n (xB_n (xB_n (xB_n (xB_l ⟨_, zs_iconst (v := 0) em164_0 (by decide +kernel), as_const (by decide +kernel)⟩) (xB_l ⟨_, zs_istore_n em164_1, as_istore⟩)) (xB_n (xB_l ⟨_, zs_iload_n em164_2, as_iload⟩) (xB_n (xB_l ⟨_, zs_bipush (v := 9) em164_3 (by decide +kernel), as_const (by decide +kernel)⟩) (xB_l ⟨_, zs_icmpge em164_5 (t := 21) (by decide), as_icmp⟩)))) (xB_n (xB_n (xB_l ⟨_, zs_aload_n em164_8, as_aload⟩) (xB_l ⟨_, zs_getf (T := TX12) (M := 70) (ci := 12) (j := 56) em164_9 rfl inX12 (by decide) wd_1328 ((congrFun xo_12 107).trans rfl), as_getf zTie⟩)) (xB_n (xB_l ⟨_, zs_iload_n em164_12, as_iload⟩) (xB_n (xB_l ⟨_, zs_iconst (v := 0) em164_13 (by decide +kernel), as_const (by decide +kernel)⟩) (xB_l ⟨_, zs_iast zInj0 em164_14, as_iast zTie⟩))))) (xB_n (xB_n (xB_n (xB_l ⟨_, zs_iinc (k := 1) em164_15 (by decide +kernel), as_iinc (by decide +kernel)⟩) (xB_l ⟨_, zs_goto em164_18 (t := 2) (by decide), as_goto⟩)) (xB_n (xB_l ⟨_, zs_aload_n em164_21, as_aload⟩) (xB_n (xB_l ⟨_, zs_getf (T := TX12) (M := 70) (ci := 12) (j := 56) em164_22 rfl inX12 (by decide) wd_1328 ((congrFun xo_12 107).trans rfl), as_getf zTie⟩) (xB_l ⟨_, zs_iconst (v := 2) em164_25 (by decide +kernel), as_const (by decide +kernel)⟩)))) (xB_n (xB_n (xB_l ⟨_, zs_aload_n em164_26, as_aload⟩) (xB_l ⟨_, zs_getf (T := TX12) (M := 70) (ci := 12) (j := 0) em164_27 rfl inX12 (by decide) wd_1332 ((congrFun xo_12 116).trans rfl), as_getf zTie⟩)) (xB_n (xB_l ⟨_, zs_sipush (v := 386) em164_30 (by decide +kernel), as_const (by decide +kernel)⟩) (xB_n (xB_l ⟨_, zs_iald em164_33, ag_iald⟩) (xB_l ⟨_, zs_iast zInj0 em164_34, as_iast zTie⟩))))))
set_option maxRecDepth 100000 in
set_option maxHeartbeats 4000000 in
theorem zM_190 : zOKa 190 zc_190 := z_auto (cuts := [(2, ([(0, 0), (0, 9)], [], [some (.inr (.inl (0, 75))), some (.inl (1, 0))], [], [], (0, 0)), [(0, 1)], 9, [0, (-1)])]) (rets := [(35, 3)]) (fuel := 1000) rfl rfl (by decide) (xrt_ok (xR_c (Or.inr (Or.inr (Or.inl ⟨rfl, em164_35, rfl⟩))) (xR_n))) (fun _ _ H _ hd => zTo_190 H hd) (by decide +kernel)
theorem em165_0 : decode prog_14_method_56_code 0 = .ok (.aload_n 0, 1) := by decide +kernel
theorem em165_1 : decode prog_14_method_56_code 1 = .ok (.invokevirtual 344, 3) := by decide +kernel
theorem em165_4 : decode prog_14_method_56_code 4 = .ok (.aload_n 0, 1) := by decide +kernel
theorem em165_5 : decode prog_14_method_56_code 5 = .ok (.getfield 107, 3) := by decide +kernel
theorem em165_8 : decode prog_14_method_56_code 8 = .ok (.iconst 3, 1) := by decide +kernel
theorem em165_9 : decode prog_14_method_56_code 9 = .ok (.aload_n 0, 1) := by decide +kernel
theorem em165_10 : decode prog_14_method_56_code 10 = .ok (.getfield 116, 3) := by decide +kernel
theorem em165_13 : decode prog_14_method_56_code 13 = .ok (.bipush 80, 2) := by decide +kernel
theorem em165_15 : decode prog_14_method_56_code 15 = .ok (.bipush 8, 2) := by decide +kernel
theorem em165_17 : decode prog_14_method_56_code 17 = .ok (.iload_n 1, 1) := by decide +kernel
theorem em165_18 : decode prog_14_method_56_code 18 = .ok (.imul, 1) := by decide +kernel
theorem em165_19 : decode prog_14_method_56_code 19 = .ok (.iadd, 1) := by decide +kernel
theorem em165_20 : decode prog_14_method_56_code 20 = .ok (.iload_n 2, 1) := by decide +kernel
theorem em165_21 : decode prog_14_method_56_code 21 = .ok (.iadd, 1) := by decide +kernel
theorem em165_22 : decode prog_14_method_56_code 22 = .ok (.iaload, 1) := by decide +kernel
theorem em165_23 : decode prog_14_method_56_code 23 = .ok (.iastore, 1) := by decide +kernel
theorem em165_24 : decode prog_14_method_56_code 24 = .ok (.aload_n 0, 1) := by decide +kernel
theorem em165_25 : decode prog_14_method_56_code 25 = .ok (.getfield 107, 3) := by decide +kernel
theorem em165_28 : decode prog_14_method_56_code 28 = .ok (.iconst 4, 1) := by decide +kernel
theorem em165_29 : decode prog_14_method_56_code 29 = .ok (.aload_n 0, 1) := by decide +kernel
theorem em165_30 : decode prog_14_method_56_code 30 = .ok (.getfield 116, 3) := by decide +kernel
theorem em165_33 : decode prog_14_method_56_code 33 = .ok (.bipush 8, 2) := by decide +kernel
theorem em165_35 : decode prog_14_method_56_code 35 = .ok (.iload_n 1, 1) := by decide +kernel
theorem em165_36 : decode prog_14_method_56_code 36 = .ok (.imul, 1) := by decide +kernel
theorem em165_37 : decode prog_14_method_56_code 37 = .ok (.iload_n 2, 1) := by decide +kernel
theorem em165_38 : decode prog_14_method_56_code 38 = .ok (.iadd, 1) := by decide +kernel
theorem em165_39 : decode prog_14_method_56_code 39 = .ok (.iaload, 1) := by decide +kernel
theorem em165_40 : decode prog_14_method_56_code 40 = .ok (.iastore, 1) := by decide +kernel
theorem em165_41 : decode prog_14_method_56_code 41 = .ok (.aload_n 0, 1) := by decide +kernel
theorem em165_42 : decode prog_14_method_56_code 42 = .ok (.getfield 107, 3) := by decide +kernel
theorem em165_45 : decode prog_14_method_56_code 45 = .ok (.iconst 5, 1) := by decide +kernel
theorem em165_46 : decode prog_14_method_56_code 46 = .ok (.iload_n 1, 1) := by decide +kernel
theorem em165_47 : decode prog_14_method_56_code 47 = .ok (.iastore, 1) := by decide +kernel
theorem em165_48 : decode prog_14_method_56_code 48 = .ok (.aload_n 0, 1) := by decide +kernel
theorem em165_49 : decode prog_14_method_56_code 49 = .ok (.getfield 107, 3) := by decide +kernel
theorem em165_52 : decode prog_14_method_56_code 52 = .ok (.bipush 6, 2) := by decide +kernel
theorem em165_54 : decode prog_14_method_56_code 54 = .ok (.iload_n 2, 1) := by decide +kernel
theorem em165_55 : decode prog_14_method_56_code 55 = .ok (.iastore, 1) := by decide +kernel
theorem em165_56 : decode prog_14_method_56_code 56 = .ok (.aload_n 0, 1) := by decide +kernel
theorem em165_57 : decode prog_14_method_56_code 57 = .ok (.getfield 107, 3) := by decide +kernel
theorem em165_60 : decode prog_14_method_56_code 60 = .ok (.bipush 8, 2) := by decide +kernel
theorem em165_62 : decode prog_14_method_56_code 62 = .ok (.aload_n 0, 1) := by decide +kernel
theorem em165_63 : decode prog_14_method_56_code 63 = .ok (.iload_n 1, 1) := by decide +kernel
theorem em165_64 : decode prog_14_method_56_code 64 = .ok (.iload_n 2, 1) := by decide +kernel
theorem em165_65 : decode prog_14_method_56_code 65 = .ok (.invokevirtual 347, 3) := by decide +kernel
theorem em165_68 : decode prog_14_method_56_code 68 = .ok (.iastore, 1) := by decide +kernel
theorem em165_69 : decode prog_14_method_56_code 69 = .ok (.return_, 1) := by decide +kernel
/-! CapitalCaseModel.looksAt:(II)V -/
noncomputable def zTr_191 : Nat → Option aF := bn 36 (bn 19 (bn 9 (bn 4 (bn 1 (bl 0 (a_aload 0 1)) (bl 1 (a_invV zG0 zprot (false, false) zc_190 (zbd 190) (1, 0, 0) 12 1 4))) (bn 5 (bl 4 (a_aload 0 5)) (bn 8 (bl 5 (a_getf zG0 zT0 12 56 8)) (bl 8 (a_const 3 9))))) (bn 15 (bn 10 (bl 9 (a_aload 0 10)) (bn 13 (bl 10 (a_getf zG0 zT0 12 0 13)) (bl 13 (a_const 80 15)))) (bn 17 (bl 15 (a_const 8 17)) (bn 18 (bl 17 (a_iload 1 18)) (bl 18 (a_bin fmul 19)))))) (bn 25 (bn 22 (bn 20 (bl 19 (a_bin fadd 20)) (bn 21 (bl 20 (a_iload 2 21)) (bl 21 (a_bin fadd 22)))) (bn 23 (bl 22 (a_ald zG0 zT0 (false, false) ts0 23)) (bn 24 (bl 23 (a_ast zG0 zT0 ts0 24)) (bl 24 (a_aload 0 25))))) (bn 30 (bn 28 (bl 25 (a_getf zG0 zT0 12 56 28)) (bn 29 (bl 28 (a_const 4 29)) (bl 29 (a_aload 0 30)))) (bn 33 (bl 30 (a_getf zG0 zT0 12 0 33)) (bn 35 (bl 33 (a_const 8 35)) (bl 35 (a_iload 1 36))))))) (bn 49 (bn 41 (bn 38 (bn 37 (bl 36 (a_bin fmul 37)) (bl 37 (a_iload 2 38))) (bn 39 (bl 38 (a_bin fadd 39)) (bn 40 (bl 39 (a_ald zG0 zT0 (false, false) ts0 40)) (bl 40 (a_ast zG0 zT0 ts0 41))))) (bn 46 (bn 42 (bl 41 (a_aload 0 42)) (bn 45 (bl 42 (a_getf zG0 zT0 12 56 45)) (bl 45 (a_const 5 46)))) (bn 47 (bl 46 (a_iload 1 47)) (bn 48 (bl 47 (a_ast zG0 zT0 ts0 48)) (bl 48 (a_aload 0 49)))))) (bn 60 (bn 55 (bn 52 (bl 49 (a_getf zG0 zT0 12 56 52)) (bn 54 (bl 52 (a_const 6 54)) (bl 54 (a_iload 2 55)))) (bn 56 (bl 55 (a_ast zG0 zT0 ts0 56)) (bn 57 (bl 56 (a_aload 0 57)) (bl 57 (a_getf zG0 zT0 12 56 60))))) (bn 64 (bn 62 (bl 60 (a_const 8 62)) (bn 63 (bl 62 (a_aload 0 63)) (bl 63 (a_iload 1 64)))) (bn 65 (bl 64 (a_iload 2 65)) (bn 68 (bl 65 (a_invV zG0 zprot (false, false) zc_187 (zbd 187) (1, 0, 0) 12 3 68)) (bl 68 (a_ast zG0 zT0 ts0 69)))))))
set_option maxRecDepth 100000 in
set_option maxHeartbeats 4000000 in
theorem zTo_191 {pre : zPre} {post : zPost} (H : zTieC pre post) {d : Nat × Nat × Nat} (hd : zLe (1, 0, 0) d) : aTr zG0 zT0 zInv (false, false) PZ zbd pre post d prog_14_method_56_code "CapitalCaseModel" zTr_191 := (xB_n (xB_n (xB_n (xB_n (xB_n (xB_l ⟨_, zs_aload_n em165_0, as_aload⟩) (xB_l ⟨_, zs_invV (T := TX12) em165_1 zl_190 rfl wd_1659 wd_1661 wd_79 ((congrFun xo_12 344).trans rfl) xm_164, ag_invV H zh_190 hd (by decide)⟩)) (xB_n (xB_l ⟨_, zs_aload_n em165_4, as_aload⟩) (xB_n (xB_l ⟨_, zs_getf (T := TX12) (M := 70) (ci := 12) (j := 56) em165_5 rfl inX12 (by decide) wd_1328 ((congrFun xo_12 107).trans rfl), as_getf zTie⟩) (xB_l ⟨_, zs_iconst (v := 3) em165_8 (by decide +kernel), as_const (by decide +kernel)⟩)))) (xB_n (xB_n (xB_l ⟨_, zs_aload_n em165_9, as_aload⟩) (xB_n (xB_l ⟨_, zs_getf (T := TX12) (M := 70) (ci := 12) (j := 0) em165_10 rfl inX12 (by decide) wd_1332 ((congrFun xo_12 116).trans rfl), as_getf zTie⟩) (xB_l ⟨_, zs_bipush (v := 80) em165_13 (by decide +kernel), as_const (by decide +kernel)⟩))) (xB_n (xB_l ⟨_, zs_bipush (v := 8) em165_15 (by decide +kernel), as_const (by decide +kernel)⟩) (xB_n (xB_l ⟨_, zs_iload_n em165_17, as_iload⟩) (xB_l ⟨_, zs_imul em165_18, as_bin fmul_ok⟩))))) (xB_n (xB_n (xB_n (xB_l ⟨_, zs_iadd em165_19, as_bin fadd_ok⟩) (xB_n (xB_l ⟨_, zs_iload_n em165_20, as_iload⟩) (xB_l ⟨_, zs_iadd em165_21, as_bin fadd_ok⟩))) (xB_n (xB_l ⟨_, zs_iald em165_22, ag_iald⟩) (xB_n (xB_l ⟨_, zs_iast zInj0 em165_23, as_iast zTie⟩) (xB_l ⟨_, zs_aload_n em165_24, as_aload⟩)))) (xB_n (xB_n (xB_l ⟨_, zs_getf (T := TX12) (M := 70) (ci := 12) (j := 56) em165_25 rfl inX12 (by decide) wd_1328 ((congrFun xo_12 107).trans rfl), as_getf zTie⟩) (xB_n (xB_l ⟨_, zs_iconst (v := 4) em165_28 (by decide +kernel), as_const (by decide +kernel)⟩) (xB_l ⟨_, zs_aload_n em165_29, as_aload⟩))) (xB_n (xB_l ⟨_, zs_getf (T := TX12) (M := 70) (ci := 12) (j := 0) em165_30 rfl inX12 (by decide) wd_1332 ((congrFun xo_12 116).trans rfl), as_getf zTie⟩) (xB_n (xB_l ⟨_, zs_bipush (v := 8) em165_33 (by decide +kernel), as_const (by decide +kernel)⟩) (xB_l ⟨_, zs_iload_n em165_35, as_iload⟩)))))) (xB_n (xB_n (xB_n (xB_n (xB_l ⟨_, zs_imul em165_36, as_bin fmul_ok⟩) (xB_l ⟨_, zs_iload_n em165_37, as_iload⟩)) (xB_n (xB_l ⟨_, zs_iadd em165_38, as_bin fadd_ok⟩) (xB_n (xB_l ⟨_, zs_iald em165_39, ag_iald⟩) (xB_l ⟨_, zs_iast zInj0 em165_40, as_iast zTie⟩)))) (xB_n (xB_n (xB_l ⟨_, zs_aload_n em165_41, as_aload⟩) (xB_n (xB_l ⟨_, zs_getf (T := TX12) (M := 70) (ci := 12) (j := 56) em165_42 rfl inX12 (by decide) wd_1328 ((congrFun xo_12 107).trans rfl), as_getf zTie⟩) (xB_l ⟨_, zs_iconst (v := 5) em165_45 (by decide +kernel), as_const (by decide +kernel)⟩))) (xB_n (xB_l ⟨_, zs_iload_n em165_46, as_iload⟩) (xB_n (xB_l ⟨_, zs_iast zInj0 em165_47, as_iast zTie⟩) (xB_l ⟨_, zs_aload_n em165_48, as_aload⟩))))) (xB_n (xB_n (xB_n (xB_l ⟨_, zs_getf (T := TX12) (M := 70) (ci := 12) (j := 56) em165_49 rfl inX12 (by decide) wd_1328 ((congrFun xo_12 107).trans rfl), as_getf zTie⟩) (xB_n (xB_l ⟨_, zs_bipush (v := 6) em165_52 (by decide +kernel), as_const (by decide +kernel)⟩) (xB_l ⟨_, zs_iload_n em165_54, as_iload⟩))) (xB_n (xB_l ⟨_, zs_iast zInj0 em165_55, as_iast zTie⟩) (xB_n (xB_l ⟨_, zs_aload_n em165_56, as_aload⟩) (xB_l ⟨_, zs_getf (T := TX12) (M := 70) (ci := 12) (j := 56) em165_57 rfl inX12 (by decide) wd_1328 ((congrFun xo_12 107).trans rfl), as_getf zTie⟩)))) (xB_n (xB_n (xB_l ⟨_, zs_bipush (v := 8) em165_60 (by decide +kernel), as_const (by decide +kernel)⟩) (xB_n (xB_l ⟨_, zs_aload_n em165_62, as_aload⟩) (xB_l ⟨_, zs_iload_n em165_63, as_iload⟩))) (xB_n (xB_l ⟨_, zs_iload_n em165_64, as_iload⟩) (xB_n (xB_l ⟨_, zs_invV (T := TX12) em165_65 zl_187 rfl wd_1643 wd_1645 wd_75 ((congrFun xo_12 347).trans rfl) xm_161, ag_invV H zh_187 hd (by decide)⟩) (xB_l ⟨_, zs_iast zInj0 em165_68, as_iast zTie⟩)))))))
set_option maxRecDepth 100000 in
set_option maxHeartbeats 4000000 in
theorem zM_191 : zOKa 191 zc_191 := z_auto (cuts := []) (rets := [(69, 3)]) (fuel := 1000) rfl rfl (by decide) (xrt_ok (xR_c (Or.inr (Or.inr (Or.inl ⟨rfl, em165_69, rfl⟩))) (xR_n))) (fun _ _ H _ hd => zTo_191 H hd) (by decide +kernel)
theorem em166_0 : decode prog_14_method_57_code 0 = .ok (.aload_n 0, 1) := by decide +kernel
theorem em166_1 : decode prog_14_method_57_code 1 = .ok (.getfield 107, 3) := by decide +kernel
theorem em166_4 : decode prog_14_method_57_code 4 = .ok (.iconst 0, 1) := by decide +kernel
theorem em166_5 : decode prog_14_method_57_code 5 = .ok (.aload_n 0, 1) := by decide +kernel
theorem em166_6 : decode prog_14_method_57_code 6 = .ok (.getfield 58, 3) := by decide +kernel
theorem em166_9 : decode prog_14_method_57_code 9 = .ok (.bipush 7, 2) := by decide +kernel
theorem em166_11 : decode prog_14_method_57_code 11 = .ok (.aload_n 0, 1) := by decide +kernel
theorem em166_12 : decode prog_14_method_57_code 12 = .ok (.getfield 230, 3) := by decide +kernel
theorem em166_15 : decode prog_14_method_57_code 15 = .ok (.imul, 1) := by decide +kernel
theorem em166_16 : decode prog_14_method_57_code 16 = .ok (.iload_n 1, 1) := by decide +kernel
theorem em166_17 : decode prog_14_method_57_code 17 = .ok (.iadd, 1) := by decide +kernel
theorem em166_18 : decode prog_14_method_57_code 18 = .ok (.iaload, 1) := by decide +kernel
theorem em166_19 : decode prog_14_method_57_code 19 = .ok (.iastore, 1) := by decide +kernel
theorem em166_20 : decode prog_14_method_57_code 20 = .ok (.aload_n 0, 1) := by decide +kernel
theorem em166_21 : decode prog_14_method_57_code 21 = .ok (.getfield 107, 3) := by decide +kernel
theorem em166_24 : decode prog_14_method_57_code 24 = .ok (.iconst 1, 1) := by decide +kernel
theorem em166_25 : decode prog_14_method_57_code 25 = .ok (.aload_n 0, 1) := by decide +kernel
theorem em166_26 : decode prog_14_method_57_code 26 = .ok (.getfield 61, 3) := by decide +kernel
theorem em166_29 : decode prog_14_method_57_code 29 = .ok (.bipush 7, 2) := by decide +kernel
theorem em166_31 : decode prog_14_method_57_code 31 = .ok (.aload_n 0, 1) := by decide +kernel
theorem em166_32 : decode prog_14_method_57_code 32 = .ok (.getfield 230, 3) := by decide +kernel
theorem em166_35 : decode prog_14_method_57_code 35 = .ok (.imul, 1) := by decide +kernel
theorem em166_36 : decode prog_14_method_57_code 36 = .ok (.iload_n 1, 1) := by decide +kernel
theorem em166_37 : decode prog_14_method_57_code 37 = .ok (.iadd, 1) := by decide +kernel
theorem em166_38 : decode prog_14_method_57_code 38 = .ok (.iaload, 1) := by decide +kernel
theorem em166_39 : decode prog_14_method_57_code 39 = .ok (.iastore, 1) := by decide +kernel
theorem em166_40 : decode prog_14_method_57_code 40 = .ok (.aload_n 0, 1) := by decide +kernel
theorem em166_41 : decode prog_14_method_57_code 41 = .ok (.getfield 107, 3) := by decide +kernel
theorem em166_44 : decode prog_14_method_57_code 44 = .ok (.bipush 7, 2) := by decide +kernel
theorem em166_46 : decode prog_14_method_57_code 46 = .ok (.aload_n 0, 1) := by decide +kernel
theorem em166_47 : decode prog_14_method_57_code 47 = .ok (.getfield 52, 3) := by decide +kernel
theorem em166_50 : decode prog_14_method_57_code 50 = .ok (.bipush 7, 2) := by decide +kernel
theorem em166_52 : decode prog_14_method_57_code 52 = .ok (.aload_n 0, 1) := by decide +kernel
theorem em166_53 : decode prog_14_method_57_code 53 = .ok (.getfield 230, 3) := by decide +kernel
theorem em166_56 : decode prog_14_method_57_code 56 = .ok (.imul, 1) := by decide +kernel
theorem em166_57 : decode prog_14_method_57_code 57 = .ok (.iload_n 1, 1) := by decide +kernel
theorem em166_58 : decode prog_14_method_57_code 58 = .ok (.iadd, 1) := by decide +kernel
theorem em166_59 : decode prog_14_method_57_code 59 = .ok (.iaload, 1) := by decide +kernel
theorem em166_60 : decode prog_14_method_57_code 60 = .ok (.iastore, 1) := by decide +kernel
theorem em166_61 : decode prog_14_method_57_code 61 = .ok (.return_, 1) := by decide +kernel
/-! CapitalCaseModel.looksFor:(I)V -/
noncomputable def zTr_192 : Nat → Option aF := bn 31 (bn 16 (bn 6 (bn 4 (bn 1 (bl 0 (a_aload 0 1)) (bl 1 (a_getf zG0 zT0 12 56 4))) (bn 5 (bl 4 (a_const 0 5)) (bl 5 (a_aload 0 6)))) (bn 11 (bn 9 (bl 6 (a_getf zG0 zT0 12 38 9)) (bl 9 (a_const 7 11))) (bn 12 (bl 11 (a_aload 0 12)) (bn 15 (bl 12 (a_getf zG0 zT0 12 2 15)) (bl 15 (a_bin fmul 16)))))) (bn 21 (bn 18 (bn 17 (bl 16 (a_iload 1 17)) (bl 17 (a_bin fadd 18))) (bn 19 (bl 18 (a_ald zG0 zT0 (false, false) ts0 19)) (bn 20 (bl 19 (a_ast zG0 zT0 ts0 20)) (bl 20 (a_aload 0 21))))) (bn 25 (bn 24 (bl 21 (a_getf zG0 zT0 12 56 24)) (bl 24 (a_const 1 25))) (bn 26 (bl 25 (a_aload 0 26)) (bn 29 (bl 26 (a_getf zG0 zT0 12 39 29)) (bl 29 (a_const 7 31))))))) (bn 46 (bn 38 (bn 35 (bn 32 (bl 31 (a_aload 0 32)) (bl 32 (a_getf zG0 zT0 12 2 35))) (bn 36 (bl 35 (a_bin fmul 36)) (bn 37 (bl 36 (a_iload 1 37)) (bl 37 (a_bin fadd 38))))) (bn 40 (bn 39 (bl 38 (a_ald zG0 zT0 (false, false) ts0 39)) (bl 39 (a_ast zG0 zT0 ts0 40))) (bn 41 (bl 40 (a_aload 0 41)) (bn 44 (bl 41 (a_getf zG0 zT0 12 56 44)) (bl 44 (a_const 7 46)))))) (bn 56 (bn 50 (bn 47 (bl 46 (a_aload 0 47)) (bl 47 (a_getf zG0 zT0 12 36 50))) (bn 52 (bl 50 (a_const 7 52)) (bn 53 (bl 52 (a_aload 0 53)) (bl 53 (a_getf zG0 zT0 12 2 56))))) (bn 58 (bn 57 (bl 56 (a_bin fmul 57)) (bl 57 (a_iload 1 58))) (bn 59 (bl 58 (a_bin fadd 59)) (bn 60 (bl 59 (a_ald zG0 zT0 (false, false) ts0 60)) (bl 60 (a_ast zG0 zT0 ts0 61)))))))
set_option maxRecDepth 100000 in
set_option maxHeartbeats 4000000 in
theorem zTo_192 {pre : zPre} {post : zPost} (H : zTieC pre post) {d : Nat × Nat × Nat} (hd : zLe (0, 0, 0) d) : aTr zG0 zT0 zInv (false, false) PZ zbd pre post d prog_14_method_57_code "CapitalCaseModel" zTr_192 := (xB_n (xB_n (xB_n (xB_n (xB_n (xB_l ⟨_, zs_aload_n em166_0, as_aload⟩) (xB_l ⟨_, zs_getf (T := TX12) (M := 70) (ci := 12) (j := 56) em166_1 rfl inX12 (by decide) wd_1328 ((congrFun xo_12 107).trans rfl), as_getf zTie⟩)) (xB_n (xB_l ⟨_, zs_iconst (v := 0) em166_4 (by decide +kernel), as_const (by decide +kernel)⟩) (xB_l ⟨_, zs_aload_n em166_5, as_aload⟩))) (xB_n (xB_n (xB_l ⟨_, zs_getf (T := TX12) (M := 70) (ci := 12) (j := 38) em166_6 rfl inX12 (by decide) wd_1308 ((congrFun xo_12 58).trans rfl), as_getf zTie⟩) (xB_l ⟨_, zs_bipush (v := 7) em166_9 (by decide +kernel), as_const (by decide +kernel)⟩)) (xB_n (xB_l ⟨_, zs_aload_n em166_11, as_aload⟩) (xB_n (xB_l ⟨_, zs_getf (T := TX12) (M := 70) (ci := 12) (j := 2) em166_12 rfl inX12 (by decide) wd_1299 ((congrFun xo_12 230).trans rfl), as_getf zTie⟩) (xB_l ⟨_, zs_imul em166_15, as_bin fmul_ok⟩))))) (xB_n (xB_n (xB_n (xB_l ⟨_, zs_iload_n em166_16, as_iload⟩) (xB_l ⟨_, zs_iadd em166_17, as_bin fadd_ok⟩)) (xB_n (xB_l ⟨_, zs_iald em166_18, ag_iald⟩) (xB_n (xB_l ⟨_, zs_iast zInj0 em166_19, as_iast zTie⟩) (xB_l ⟨_, zs_aload_n em166_20, as_aload⟩)))) (xB_n (xB_n (xB_l ⟨_, zs_getf (T := TX12) (M := 70) (ci := 12) (j := 56) em166_21 rfl inX12 (by decide) wd_1328 ((congrFun xo_12 107).trans rfl), as_getf zTie⟩) (xB_l ⟨_, zs_iconst (v := 1) em166_24 (by decide +kernel), as_const (by decide +kernel)⟩)) (xB_n (xB_l ⟨_, zs_aload_n em166_25, as_aload⟩) (xB_n (xB_l ⟨_, zs_getf (T := TX12) (M := 70) (ci := 12) (j := 39) em166_26 rfl inX12 (by decide) wd_1309 ((congrFun xo_12 61).trans rfl), as_getf zTie⟩) (xB_l ⟨_, zs_bipush (v := 7) em166_29 (by decide +kernel), as_const (by decide +kernel)⟩)))))) (xB_n (xB_n (xB_n (xB_n (xB_l ⟨_, zs_aload_n em166_31, as_aload⟩) (xB_l ⟨_, zs_getf (T := TX12) (M := 70) (ci := 12) (j := 2) em166_32 rfl inX12 (by decide) wd_1299 ((congrFun xo_12 230).trans rfl), as_getf zTie⟩)) (xB_n (xB_l ⟨_, zs_imul em166_35, as_bin fmul_ok⟩) (xB_n (xB_l ⟨_, zs_iload_n em166_36, as_iload⟩) (xB_l ⟨_, zs_iadd em166_37, as_bin fadd_ok⟩)))) (xB_n (xB_n (xB_l ⟨_, zs_iald em166_38, ag_iald⟩) (xB_l ⟨_, zs_iast zInj0 em166_39, as_iast zTie⟩)) (xB_n (xB_l ⟨_, zs_aload_n em166_40, as_aload⟩) (xB_n (xB_l ⟨_, zs_getf (T := TX12) (M := 70) (ci := 12) (j := 56) em166_41 rfl inX12 (by decide) wd_1328 ((congrFun xo_12 107).trans rfl), as_getf zTie⟩) (xB_l ⟨_, zs_bipush (v := 7) em166_44 (by decide +kernel), as_const (by decide +kernel)⟩))))) (xB_n (xB_n (xB_n (xB_l ⟨_, zs_aload_n em166_46, as_aload⟩) (xB_l ⟨_, zs_getf (T := TX12) (M := 70) (ci := 12) (j := 36) em166_47 rfl inX12 (by decide) wd_1306 ((congrFun xo_12 52).trans rfl), as_getf zTie⟩)) (xB_n (xB_l ⟨_, zs_bipush (v := 7) em166_50 (by decide +kernel), as_const (by decide +kernel)⟩) (xB_n (xB_l ⟨_, zs_aload_n em166_52, as_aload⟩) (xB_l ⟨_, zs_getf (T := TX12) (M := 70) (ci := 12) (j := 2) em166_53 rfl inX12 (by decide) wd_1299 ((congrFun xo_12 230).trans rfl), as_getf zTie⟩)))) (xB_n (xB_n (xB_l ⟨_, zs_imul em166_56, as_bin fmul_ok⟩) (xB_l ⟨_, zs_iload_n em166_57, as_iload⟩)) (xB_n (xB_l ⟨_, zs_iadd em166_58, as_bin fadd_ok⟩) (xB_n (xB_l ⟨_, zs_iald em166_59, ag_iald⟩) (xB_l ⟨_, zs_iast zInj0 em166_60, as_iast zTie⟩)))))))
set_option maxRecDepth 100000 in
set_option maxHeartbeats 4000000 in
theorem zM_192 : zOKa 192 zc_192 := z_auto (cuts := []) (rets := [(61, 3)]) (fuel := 1000) rfl rfl (by decide) (xrt_ok (xR_c (Or.inr (Or.inr (Or.inl ⟨rfl, em166_61, rfl⟩))) (xR_n))) (fun _ _ H _ hd => zTo_192 H hd) (by decide +kernel)
theorem em167_0 : decode prog_14_method_50_code 0 = .ok (.aload_n 0, 1) := by decide +kernel
theorem em167_1 : decode prog_14_method_50_code 1 = .ok (.getfield 328, 3) := by decide +kernel
theorem em167_4 : decode prog_14_method_50_code 4 = .ok (.bipush 121, 2) := by decide +kernel
theorem em167_6 : decode prog_14_method_50_code 6 = .ok (.invokestatic 338, 3) := by decide +kernel
theorem em167_9 : decode prog_14_method_50_code 9 = .ok (.iload_n 1, 1) := by decide +kernel
theorem em167_10 : decode prog_14_method_50_code 10 = .ok (.invokestatic 338, 3) := by decide +kernel
theorem em167_13 : decode prog_14_method_50_code 13 = .ok (.iconst 1, 1) := by decide +kernel
theorem em167_14 : decode prog_14_method_50_code 14 = .ok (.iushr, 1) := by decide +kernel
theorem em167_15 : decode prog_14_method_50_code 15 = .ok (.iload_n 2, 1) := by decide +kernel
theorem em167_16 : decode prog_14_method_50_code 16 = .ok (.irem, 1) := by decide +kernel
theorem em167_17 : decode prog_14_method_50_code 17 = .ok (.ireturn, 1) := by decide +kernel
/-! CapitalCaseModel.lotOf:(II)I -/
noncomputable def zTr_193 : Nat → Option aF := bn 10 (bn 4 (bn 1 (bl 0 (a_aload 0 1)) (bl 1 (a_getf zG0 zT0 12 6 4))) (bn 6 (bl 4 (a_const 121 6)) (bn 9 (bl 6 (a_inv zG0 zprot (false, false) zc_195 (zbd 195) (1, 0, 0) 2 9)) (bl 9 (a_iload 1 10))))) (bn 14 (bn 13 (bl 10 (a_inv zG0 zprot (false, false) zc_195 (zbd 195) (1, 0, 0) 2 13)) (bl 13 (a_const 1 14))) (bn 15 (bl 14 (a_bin fushr 15)) (bn 16 (bl 15 (a_iload 2 16)) (bl 16 (a_div frem 17)))))
set_option maxRecDepth 100000 in
set_option maxHeartbeats 4000000 in
theorem zTo_193 {pre : zPre} {post : zPost} (H : zTieC pre post) {d : Nat × Nat × Nat} (hd : zLe (1, 0, 0) d) : aTr zG0 zT0 zInv (false, false) PZ zbd pre post d prog_14_method_50_code "CapitalCaseModel" zTr_193 := (xB_n (xB_n (xB_n (xB_l ⟨_, zs_aload_n em167_0, as_aload⟩) (xB_l ⟨_, zs_getf (T := TX12) (M := 70) (ci := 12) (j := 6) em167_1 rfl inX12 (by decide) wd_1333 ((congrFun xo_12 328).trans rfl), as_getf zTie⟩)) (xB_n (xB_l ⟨_, zs_bipush (v := 121) em167_4 (by decide +kernel), as_const (by decide +kernel)⟩) (xB_n (xB_l ⟨_, zs_invS em167_6 zl_195 wd_1774 wd_1775 ((congrFun xo_12 338).trans rfl) xm_168, ag_inv H zh_195 hd (by decide)⟩) (xB_l ⟨_, zs_iload_n em167_9, as_iload⟩)))) (xB_n (xB_n (xB_l ⟨_, zs_invS em167_10 zl_195 wd_1774 wd_1775 ((congrFun xo_12 338).trans rfl) xm_168, ag_inv H zh_195 hd (by decide)⟩) (xB_l ⟨_, zs_iconst (v := 1) em167_13 (by decide +kernel), as_const (by decide +kernel)⟩)) (xB_n (xB_l ⟨_, zs_iushr em167_14, as_bin fushr_ok⟩) (xB_n (xB_l ⟨_, zs_iload_n em167_15, as_iload⟩) (xB_l ⟨_, zs_irem em167_16, as_div frem_ok⟩)))))
set_option maxRecDepth 100000 in
set_option maxHeartbeats 4000000 in
theorem zM_193 : zOKa 193 zc_193 := z_auto (cuts := []) (rets := [(17, 1)]) (fuel := 1000) rfl rfl (by decide) (xrt_ok (xR_c (Or.inl ⟨rfl, em167_17, rfl⟩) (xR_n))) (fun _ _ H _ hd => zTo_193 H hd) (by decide +kernel)
/-! CapitalCaseModel.lotOf:(II)I -/
noncomputable def zTr_194 : Nat → Option aF := bn 10 (bn 4 (bn 1 (bl 0 (a_aload 0 1)) (bl 1 (a_getf zG0 zT0 12 6 4))) (bn 6 (bl 4 (a_const 121 6)) (bn 9 (bl 6 (a_inv zG0 zprot (false, false) zc_195 (zbd 195) (1, 0, 0) 2 9)) (bl 9 (a_iload 1 10))))) (bn 14 (bn 13 (bl 10 (a_inv zG0 zprot (false, false) zc_195 (zbd 195) (1, 0, 0) 2 13)) (bl 13 (a_const 1 14))) (bn 15 (bl 14 (a_bin fushr 15)) (bn 16 (bl 15 (a_iload 2 16)) (bl 16 (a_div frem 17)))))
set_option maxRecDepth 100000 in
set_option maxHeartbeats 4000000 in
theorem zTo_194 {pre : zPre} {post : zPost} (H : zTieC pre post) {d : Nat × Nat × Nat} (hd : zLe (1, 0, 0) d) : aTr zG0 zT0 zInv (false, false) PZ zbd pre post d prog_14_method_50_code "CapitalCaseModel" zTr_194 := (xB_n (xB_n (xB_n (xB_l ⟨_, zs_aload_n em167_0, as_aload⟩) (xB_l ⟨_, zs_getf (T := TX12) (M := 70) (ci := 12) (j := 6) em167_1 rfl inX12 (by decide) wd_1333 ((congrFun xo_12 328).trans rfl), as_getf zTie⟩)) (xB_n (xB_l ⟨_, zs_bipush (v := 121) em167_4 (by decide +kernel), as_const (by decide +kernel)⟩) (xB_n (xB_l ⟨_, zs_invS em167_6 zl_195 wd_1774 wd_1775 ((congrFun xo_12 338).trans rfl) xm_168, ag_inv H zh_195 hd (by decide)⟩) (xB_l ⟨_, zs_iload_n em167_9, as_iload⟩)))) (xB_n (xB_n (xB_l ⟨_, zs_invS em167_10 zl_195 wd_1774 wd_1775 ((congrFun xo_12 338).trans rfl) xm_168, ag_inv H zh_195 hd (by decide)⟩) (xB_l ⟨_, zs_iconst (v := 1) em167_13 (by decide +kernel), as_const (by decide +kernel)⟩)) (xB_n (xB_l ⟨_, zs_iushr em167_14, as_bin fushr_ok⟩) (xB_n (xB_l ⟨_, zs_iload_n em167_15, as_iload⟩) (xB_l ⟨_, zs_irem em167_16, as_div frem_ok⟩)))))
set_option maxRecDepth 100000 in
set_option maxHeartbeats 4000000 in
theorem zM_194 : zOKa 194 zc_194 := z_auto (cuts := []) (rets := [(17, 1)]) (fuel := 1000) rfl rfl (by decide) (xrt_ok (xR_c (Or.inl ⟨rfl, em167_17, rfl⟩) (xR_n))) (fun _ _ H _ hd => zTo_194 H hd) (by decide +kernel)
theorem em168_0 : decode prog_14_method_49_code 0 = .ok (.iload_n 0, 1) := by decide +kernel
theorem em168_1 : decode prog_14_method_49_code 1 = .ok (.iload_n 1, 1) := by decide +kernel
theorem em168_2 : decode prog_14_method_49_code 2 = .ok (.ixor, 1) := by decide +kernel
theorem em168_3 : decode prog_14_method_49_code 3 = .ok (.ldc_w 337, 3) := by decide +kernel
theorem em168_6 : decode prog_14_method_49_code 6 = .ok (.imul, 1) := by decide +kernel
theorem em168_7 : decode prog_14_method_49_code 7 = .ok (.sipush 12345, 3) := by decide +kernel
theorem em168_10 : decode prog_14_method_49_code 10 = .ok (.iadd, 1) := by decide +kernel
theorem em168_11 : decode prog_14_method_49_code 11 = .ok (.istore_n 2, 1) := by decide +kernel
theorem em168_12 : decode prog_14_method_49_code 12 = .ok (.iload_n 2, 1) := by decide +kernel
theorem em168_13 : decode prog_14_method_49_code 13 = .ok (.iload_n 2, 1) := by decide +kernel
theorem em168_14 : decode prog_14_method_49_code 14 = .ok (.bipush 15, 2) := by decide +kernel
theorem em168_16 : decode prog_14_method_49_code 16 = .ok (.iushr, 1) := by decide +kernel
theorem em168_17 : decode prog_14_method_49_code 17 = .ok (.ixor, 1) := by decide +kernel
theorem em168_18 : decode prog_14_method_49_code 18 = .ok (.ireturn, 1) := by decide +kernel
/-! CapitalCaseModel.mixed:(II)I -/
noncomputable def zTr_195 : Nat → Option aF := bn 10 (bn 3 (bn 1 (bl 0 (a_iload 0 1)) (bn 2 (bl 1 (a_iload 1 2)) (bl 2 (a_bin fany 3)))) (bn 6 (bl 3 (a_const 1103515245 6)) (bn 7 (bl 6 (a_bin fmul 7)) (bl 7 (a_const 12345 10))))) (bn 13 (bn 11 (bl 10 (a_bin fadd 11)) (bn 12 (bl 11 (a_istore 2 12)) (bl 12 (a_iload 2 13)))) (bn 16 (bn 14 (bl 13 (a_iload 2 14)) (bl 14 (a_const 15 16))) (bn 17 (bl 16 (a_bin fushr 17)) (bl 17 (a_bin fany 18)))))
set_option maxRecDepth 100000 in
set_option maxHeartbeats 4000000 in
theorem zTo_195 {pre : zPre} {post : zPost} (H : zTieC pre post) {d : Nat × Nat × Nat} (hd : zLe (0, 0, 0) d) : aTr zG0 zT0 zInv (false, false) PZ zbd pre post d prog_14_method_49_code "CapitalCaseModel" zTr_195 := (xB_n (xB_n (xB_n (xB_l ⟨_, zs_iload_n em168_0, as_iload⟩) (xB_n (xB_l ⟨_, zs_iload_n em168_1, as_iload⟩) (xB_l ⟨_, zs_ixor em168_2, as_bin fany_ok⟩))) (xB_n (xB_l ⟨_, zs_ldcw (v := 1103515245) em168_3 wd_1777 ((congrFun xo_12 337).trans (by decide +kernel)), as_const (by decide +kernel)⟩) (xB_n (xB_l ⟨_, zs_imul em168_6, as_bin fmul_ok⟩) (xB_l ⟨_, zs_sipush (v := 12345) em168_7 (by decide +kernel), as_const (by decide +kernel)⟩)))) (xB_n (xB_n (xB_l ⟨_, zs_iadd em168_10, as_bin fadd_ok⟩) (xB_n (xB_l ⟨_, zs_istore_n em168_11, as_istore⟩) (xB_l ⟨_, zs_iload_n em168_12, as_iload⟩))) (xB_n (xB_n (xB_l ⟨_, zs_iload_n em168_13, as_iload⟩) (xB_l ⟨_, zs_bipush (v := 15) em168_14 (by decide +kernel), as_const (by decide +kernel)⟩)) (xB_n (xB_l ⟨_, zs_iushr em168_16, as_bin fushr_ok⟩) (xB_l ⟨_, zs_ixor em168_17, as_bin fany_ok⟩)))))
set_option maxRecDepth 100000 in
set_option maxHeartbeats 4000000 in
theorem zM_195 : zOKa 195 zc_195 := z_auto (cuts := []) (rets := [(18, 1)]) (fuel := 1000) rfl rfl (by decide) (xrt_ok (xR_c (Or.inl ⟨rfl, em168_18, rfl⟩) (xR_n))) (fun _ _ H _ hd => zTo_195 H hd) (by decide +kernel)
theorem em169_0 : decode prog_14_method_18_code 0 = .ok (.aload_n 0, 1) := by decide +kernel
theorem em169_1 : decode prog_14_method_18_code 1 = .ok (.iload_n 1, 1) := by decide +kernel
theorem em169_2 : decode prog_14_method_18_code 2 = .ok (.invokevirtual 218, 3) := by decide +kernel
theorem em169_5 : decode prog_14_method_18_code 5 = .ok (.ifCond .eq 10, 3) := by decide +kernel
theorem em169_8 : decode prog_14_method_18_code 8 = .ok (.aload_n 0, 1) := by decide +kernel
theorem em169_9 : decode prog_14_method_18_code 9 = .ok (.invokevirtual 221, 3) := by decide +kernel
theorem em169_12 : decode prog_14_method_18_code 12 = .ok (.goto 8, 3) := by decide +kernel
theorem em169_15 : decode prog_14_method_18_code 15 = .ok (.aload_n 0, 1) := by decide +kernel
theorem em169_16 : decode prog_14_method_18_code 16 = .ok (.iconst 1, 1) := by decide +kernel
theorem em169_17 : decode prog_14_method_18_code 17 = .ok (.invokevirtual 215, 3) := by decide +kernel
theorem em169_20 : decode prog_14_method_18_code 20 = .ok (.return_, 1) := by decide +kernel
/-! CapitalCaseModel.must:(I)V -/
noncomputable def zTr_196 : Nat → Option aF := bn 9 (bn 2 (bn 1 (bl 0 (a_aload 0 1)) (bl 1 (a_iload 1 2))) (bn 5 (bl 2 (a_invV zG0 zprot (true, false) zc_175 (zbd 175) (2, 0, 0) 12 2 5)) (bn 8 (bl 5 (a_if 0 15 8)) (bl 8 (a_aload 0 9))))) (bn 15 (bn 12 (bl 9 (a_invV zG0 zprot (true, false) zc_151 (zbd 151) (2, 0, 0) 12 1 12)) (bl 12 (a_goto 20))) (bn 16 (bl 15 (a_aload 0 16)) (bn 17 (bl 16 (a_const 1 17)) (bl 17 (a_invV zG0 zprot (true, false) zc_140 (zbd 140) (2, 0, 0) 12 2 20)))))
set_option maxRecDepth 100000 in
set_option maxHeartbeats 4000000 in
theorem zTo_196 {pre : zPre} {post : zPost} (H : zTieC pre post) {d : Nat × Nat × Nat} (hd : zLe (2, 0, 0) d) : aTr zG0 zT0 zInv (true, false) PZ zbd pre post d prog_14_method_18_code "CapitalCaseModel" zTr_196 := (xB_n (xB_n (xB_n (xB_l ⟨_, zs_aload_n em169_0, as_aload⟩) (xB_l ⟨_, zs_iload_n em169_1, as_iload⟩)) (xB_n (xB_l ⟨_, zs_invV (T := TX12) em169_2 zl_175 rfl wd_1531 wd_1533 wd_52 ((congrFun xo_12 218).trans rfl) xm_149, ag_invV H zh_175 hd (by decide)⟩) (xB_n (xB_l ⟨_, zs_ifeq em169_5 (t := 15) (by decide), as_if⟩) (xB_l ⟨_, zs_aload_n em169_8, as_aload⟩)))) (xB_n (xB_n (xB_l ⟨_, zs_invV (T := TX12) em169_9 zl_151 rfl wd_1547 wd_1549 wd_56 ((congrFun xo_12 221).trans rfl) xm_144, ag_invV H zh_151 hd (by decide)⟩) (xB_l ⟨_, zs_goto em169_12 (t := 20) (by decide), as_goto⟩)) (xB_n (xB_l ⟨_, zs_aload_n em169_15, as_aload⟩) (xB_n (xB_l ⟨_, zs_iconst (v := 1) em169_16 (by decide +kernel), as_const (by decide +kernel)⟩) (xB_l ⟨_, zs_invV (T := TX12) em169_17 zl_140 rfl wd_1543 wd_1545 wd_55 ((congrFun xo_12 215).trans rfl) xm_133, ag_invV H zh_140 hd (by decide)⟩)))))
set_option maxRecDepth 100000 in
set_option maxHeartbeats 4000000 in
theorem zM_196 : zOKa 196 zc_196 := z_auto (cuts := []) (rets := [(20, 3)]) (fuel := 1000) rfl rfl (by decide) (xrt_ok (xR_c (Or.inr (Or.inr (Or.inl ⟨rfl, em169_20, rfl⟩))) (xR_n))) (fun _ _ H _ hd => zTo_196 H hd) (by decide +kernel)
theorem em170_0 : decode prog_14_method_25_code 0 = .ok (.aload_n 0, 1) := by decide +kernel
theorem em170_1 : decode prog_14_method_25_code 1 = .ok (.getfield 203, 3) := by decide +kernel
theorem em170_4 : decode prog_14_method_25_code 4 = .ok (.istore_n 1, 1) := by decide +kernel
theorem em170_5 : decode prog_14_method_25_code 5 = .ok (.aload_n 0, 1) := by decide +kernel
theorem em170_6 : decode prog_14_method_25_code 6 = .ok (.iconst 1, 1) := by decide +kernel
theorem em170_7 : decode prog_14_method_25_code 7 = .ok (.invokevirtual 258, 3) := by decide +kernel
theorem em170_10 : decode prog_14_method_25_code 10 = .ok (.iconst 0, 1) := by decide +kernel
theorem em170_11 : decode prog_14_method_25_code 11 = .ok (.istore_n 2, 1) := by decide +kernel
theorem em170_12 : decode prog_14_method_25_code 12 = .ok (.iload_n 2, 1) := by decide +kernel
theorem em170_13 : decode prog_14_method_25_code 13 = .ok (.aload_n 0, 1) := by decide +kernel
theorem em170_14 : decode prog_14_method_25_code 14 = .ok (.getfield 236, 3) := by decide +kernel
theorem em170_17 : decode prog_14_method_25_code 17 = .ok (.if_icmp .ge 38, 3) := by decide +kernel
theorem em170_20 : decode prog_14_method_25_code 20 = .ok (.aload_n 0, 1) := by decide +kernel
theorem em170_21 : decode prog_14_method_25_code 21 = .ok (.getfield 200, 3) := by decide +kernel
theorem em170_24 : decode prog_14_method_25_code 24 = .ok (.ifCond .ne 31, 3) := by decide +kernel
theorem em170_27 : decode prog_14_method_25_code 27 = .ok (.aload_n 0, 1) := by decide +kernel
theorem em170_28 : decode prog_14_method_25_code 28 = .ok (.getfield 40, 3) := by decide +kernel
theorem em170_31 : decode prog_14_method_25_code 31 = .ok (.iload_n 2, 1) := by decide +kernel
theorem em170_32 : decode prog_14_method_25_code 32 = .ok (.laload, 1) := by decide +kernel
theorem em170_33 : decode prog_14_method_25_code 33 = .ok (.aload_n 0, 1) := by decide +kernel
theorem em170_34 : decode prog_14_method_25_code 34 = .ok (.getfield 30, 3) := by decide +kernel
theorem em170_37 : decode prog_14_method_25_code 37 = .ok (.iload_n 1, 1) := by decide +kernel
theorem em170_38 : decode prog_14_method_25_code 38 = .ok (.laload, 1) := by decide +kernel
theorem em170_39 : decode prog_14_method_25_code 39 = .ok (.lcmp, 1) := by decide +kernel
theorem em170_40 : decode prog_14_method_25_code 40 = .ok (.ifCond .ne 9, 3) := by decide +kernel
theorem em170_43 : decode prog_14_method_25_code 43 = .ok (.aload_n 0, 1) := by decide +kernel
theorem em170_44 : decode prog_14_method_25_code 44 = .ok (.iconst 3, 1) := by decide +kernel
theorem em170_45 : decode prog_14_method_25_code 45 = .ok (.iload_n 1, 1) := by decide +kernel
theorem em170_46 : decode prog_14_method_25_code 46 = .ok (.invokevirtual 277, 3) := by decide +kernel
theorem em170_49 : decode prog_14_method_25_code 49 = .ok (.iinc 2 1, 3) := by decide +kernel
theorem em170_52 : decode prog_14_method_25_code 52 = .ok (.goto (-40), 3) := by decide +kernel
theorem em170_55 : decode prog_14_method_25_code 55 = .ok (.iload_n 1, 1) := by decide +kernel
theorem em170_56 : decode prog_14_method_25_code 56 = .ok (.ireturn, 1) := by decide +kernel
/-! CapitalCaseModel.named:()I -/
noncomputable def zTr_197 : Nat → Option aF := bn 28 (bn 12 (bn 6 (bn 4 (bn 1 (bl 0 (a_aload 0 1)) (bl 1 (a_getf zG0 zT0 12 25 4))) (bn 5 (bl 4 (a_istore 1 5)) (bl 5 (a_aload 0 6)))) (bn 10 (bn 7 (bl 6 (a_const 1 7)) (bl 7 (a_invV zG0 zprot (true, false) zc_196 (zbd 196) (3, 0, 0) 12 2 10))) (bn 11 (bl 10 (a_const 0 11)) (bl 11 (a_istore 2 12))))) (bn 20 (bn 14 (bn 13 (bl 12 (a_iload 2 13)) (bl 13 (a_aload 0 14))) (bn 17 (bl 14 (a_getf zG0 zT0 12 33 17)) (bl 17 (a_icmp 3 55 20)))) (bn 24 (bn 21 (bl 20 (a_aload 0 21)) (bl 21 (a_getf zG0 zT0 12 27 24))) (bn 27 (bl 24 (a_if 1 55 27)) (bl 27 (a_aload 0 28)))))) (bn 40 (bn 34 (bn 32 (bn 31 (bl 28 (a_getf zG0 zT0 12 34 31)) (bl 31 (a_iload 2 32))) (bn 33 (bl 32 (a_lald zG0 33)) (bl 33 (a_aload 0 34)))) (bn 38 (bn 37 (bl 34 (a_getf zG0 zT0 12 22 37)) (bl 37 (a_iload 1 38))) (bn 39 (bl 38 (a_lald zG0 39)) (bl 39 (a_lcmp 40))))) (bn 46 (bn 44 (bn 43 (bl 40 (a_if 1 49 43)) (bl 43 (a_aload 0 44))) (bn 45 (bl 44 (a_const 3 45)) (bl 45 (a_iload 1 46)))) (bn 52 (bn 49 (bl 46 (a_invV zG0 zprot (true, false) zc_231 (zbd 231) (3, 0, 0) 12 3 49)) (bl 49 (a_iinc 2 1 52))) (bn 55 (bl 52 (a_goto 12)) (bl 55 (a_iload 1 56))))))
set_option maxRecDepth 100000 in
set_option maxHeartbeats 4000000 in
theorem zTo_197 {pre : zPre} {post : zPost} (H : zTieC pre post) {d : Nat × Nat × Nat} (hd : zLe (3, 0, 0) d) : aTr zG0 zT0 zInv (true, false) PZ zbd pre post d prog_14_method_25_code "CapitalCaseModel" zTr_197 := (xB_n (xB_n (xB_n (xB_n (xB_n (xB_l ⟨_, zs_aload_n em170_0, as_aload⟩) (xB_l ⟨_, zs_getf (T := TX12) (M := 70) (ci := 12) (j := 25) em170_1 rfl inX12 (by decide) wd_1292 ((congrFun xo_12 203).trans rfl), as_getf zTie⟩)) (xB_n (xB_l ⟨_, zs_istore_n em170_4, as_istore⟩) (xB_l ⟨_, zs_aload_n em170_5, as_aload⟩))) (xB_n (xB_n (xB_l ⟨_, zs_iconst (v := 1) em170_6 (by decide +kernel), as_const (by decide +kernel)⟩) (xB_l ⟨_, zs_invV (T := TX12) em170_7 zl_196 rfl wd_1559 wd_1561 wd_59 ((congrFun xo_12 258).trans rfl) xm_169, ag_invV H zh_196 hd (by decide)⟩)) (xB_n (xB_l ⟨_, zs_iconst (v := 0) em170_10 (by decide +kernel), as_const (by decide +kernel)⟩) (xB_l ⟨_, zs_istore_n em170_11, as_istore⟩)))) (xB_n (xB_n (xB_n (xB_l ⟨_, zs_iload_n em170_12, as_iload⟩) (xB_l ⟨_, zs_aload_n em170_13, as_aload⟩)) (xB_n (xB_l ⟨_, zs_getf (T := TX12) (M := 70) (ci := 12) (j := 33) em170_14 rfl inX12 (by decide) wd_1301 ((congrFun xo_12 236).trans rfl), as_getf zTie⟩) (xB_l ⟨_, zs_icmpge em170_17 (t := 55) (by decide), as_icmp⟩))) (xB_n (xB_n (xB_l ⟨_, zs_aload_n em170_20, as_aload⟩) (xB_l ⟨_, zs_getf (T := TX12) (M := 70) (ci := 12) (j := 27) em170_21 rfl inX12 (by decide) wd_1294 ((congrFun xo_12 200).trans rfl), as_getf zTie⟩)) (xB_n (xB_l ⟨_, zs_ifne em170_24 (t := 55) (by decide), as_if⟩) (xB_l ⟨_, zs_aload_n em170_27, as_aload⟩))))) (xB_n (xB_n (xB_n (xB_n (xB_l ⟨_, zs_getf (T := TX12) (M := 70) (ci := 12) (j := 34) em170_28 rfl inX12 (by decide) wd_1302 ((congrFun xo_12 40).trans rfl), as_getf zTie⟩) (xB_l ⟨_, zs_iload_n em170_31, as_iload⟩)) (xB_n (xB_l ⟨_, zs_lald em170_32, as_lald⟩) (xB_l ⟨_, zs_aload_n em170_33, as_aload⟩))) (xB_n (xB_n (xB_l ⟨_, zs_getf (T := TX12) (M := 70) (ci := 12) (j := 22) em170_34 rfl inX12 (by decide) wd_1289 ((congrFun xo_12 30).trans rfl), as_getf zTie⟩) (xB_l ⟨_, zs_iload_n em170_37, as_iload⟩)) (xB_n (xB_l ⟨_, zs_lald em170_38, as_lald⟩) (xB_l ⟨_, zs_lcmp em170_39, as_lcmp⟩)))) (xB_n (xB_n (xB_n (xB_l ⟨_, zs_ifne em170_40 (t := 49) (by decide), as_if⟩) (xB_l ⟨_, zs_aload_n em170_43, as_aload⟩)) (xB_n (xB_l ⟨_, zs_iconst (v := 3) em170_44 (by decide +kernel), as_const (by decide +kernel)⟩) (xB_l ⟨_, zs_iload_n em170_45, as_iload⟩))) (xB_n (xB_n (xB_l ⟨_, zs_invV (T := TX12) em170_46 zl_231 rfl wd_1563 wd_1565 wd_60 ((congrFun xo_12 277).trans rfl) xm_204, ag_invV H zh_231 hd (by decide)⟩) (xB_l ⟨_, zs_iinc (k := 1) em170_49 (by decide +kernel), as_iinc (by decide +kernel)⟩)) (xB_n (xB_l ⟨_, zs_goto em170_52 (t := 12) (by decide), as_goto⟩) (xB_l ⟨_, zs_iload_n em170_55, as_iload⟩))))))
set_option maxRecDepth 100000 in
set_option maxHeartbeats 4000000 in
theorem zM_197 : zOKa 197 zc_197 := z_auto (cuts := [(12, ([(0, 0), (0, 400), (0, 2147483647), (0, 12), (0, 12), (0, 400), (0, 2147483647)], [], [some (.inr (.inl (0, 75))), some (.inl (1, 0)), some (.inl (4, 0))], [], [(12, 5, 0), (13, 6, 0), (15, 3, 0)], (0, 0)), [(0, 2), (1, 12), (1, 13)], 12, [0, 0, 0, 0, (-1)])]) (rets := [(56, 1)]) (fuel := 1000) rfl rfl (by decide) (xrt_ok (xR_c (Or.inl ⟨rfl, em170_56, rfl⟩) (xR_n))) (fun _ _ H _ hd => zTo_197 H hd) (by decide +kernel)
theorem em171_0 : decode prog_14_method_93_code 0 = .ok (.iconst 0, 1) := by decide +kernel
theorem em171_1 : decode prog_14_method_93_code 1 = .ok (.istore_n 3, 1) := by decide +kernel
theorem em171_2 : decode prog_14_method_93_code 2 = .ok (.iconst 0, 1) := by decide +kernel
theorem em171_3 : decode prog_14_method_93_code 3 = .ok (.istore 4, 2) := by decide +kernel
theorem em171_5 : decode prog_14_method_93_code 5 = .ok (.iload 4, 2) := by decide +kernel
theorem em171_7 : decode prog_14_method_93_code 7 = .ok (.aload_n 0, 1) := by decide +kernel
theorem em171_8 : decode prog_14_method_93_code 8 = .ok (.getfield 52, 3) := by decide +kernel
theorem em171_11 : decode prog_14_method_93_code 11 = .ok (.bipush 7, 2) := by decide +kernel
theorem em171_13 : decode prog_14_method_93_code 13 = .ok (.aload_n 0, 1) := by decide +kernel
theorem em171_14 : decode prog_14_method_93_code 14 = .ok (.getfield 230, 3) := by decide +kernel
theorem em171_17 : decode prog_14_method_93_code 17 = .ok (.imul, 1) := by decide +kernel
theorem em171_18 : decode prog_14_method_93_code 18 = .ok (.iload_n 1, 1) := by decide +kernel
theorem em171_19 : decode prog_14_method_93_code 19 = .ok (.iadd, 1) := by decide +kernel
theorem em171_20 : decode prog_14_method_93_code 20 = .ok (.iaload, 1) := by decide +kernel
theorem em171_21 : decode prog_14_method_93_code 21 = .ok (.if_icmp .ge 36, 3) := by decide +kernel
theorem em171_24 : decode prog_14_method_93_code 24 = .ok (.aload_n 0, 1) := by decide +kernel
theorem em171_25 : decode prog_14_method_93_code 25 = .ok (.getfield 55, 3) := by decide +kernel
theorem em171_28 : decode prog_14_method_93_code 28 = .ok (.bipush 8, 2) := by decide +kernel
theorem em171_30 : decode prog_14_method_93_code 30 = .ok (.bipush 7, 2) := by decide +kernel
theorem em171_32 : decode prog_14_method_93_code 32 = .ok (.aload_n 0, 1) := by decide +kernel
theorem em171_33 : decode prog_14_method_93_code 33 = .ok (.getfield 230, 3) := by decide +kernel
theorem em171_36 : decode prog_14_method_93_code 36 = .ok (.imul, 1) := by decide +kernel
theorem em171_37 : decode prog_14_method_93_code 37 = .ok (.iload_n 1, 1) := by decide +kernel
theorem em171_38 : decode prog_14_method_93_code 38 = .ok (.iadd, 1) := by decide +kernel
theorem em171_39 : decode prog_14_method_93_code 39 = .ok (.imul, 1) := by decide +kernel
theorem em171_40 : decode prog_14_method_93_code 40 = .ok (.iload 4, 2) := by decide +kernel
theorem em171_42 : decode prog_14_method_93_code 42 = .ok (.iadd, 1) := by decide +kernel
theorem em171_43 : decode prog_14_method_93_code 43 = .ok (.iaload, 1) := by decide +kernel
theorem em171_44 : decode prog_14_method_93_code 44 = .ok (.iload_n 2, 1) := by decide +kernel
theorem em171_45 : decode prog_14_method_93_code 45 = .ok (.if_icmp .ne 6, 3) := by decide +kernel
theorem em171_48 : decode prog_14_method_93_code 48 = .ok (.iinc 3 1, 3) := by decide +kernel
theorem em171_51 : decode prog_14_method_93_code 51 = .ok (.iinc 4 1, 3) := by decide +kernel
theorem em171_54 : decode prog_14_method_93_code 54 = .ok (.goto (-49), 3) := by decide +kernel
theorem em171_57 : decode prog_14_method_93_code 57 = .ok (.iload_n 3, 1) := by decide +kernel
theorem em171_58 : decode prog_14_method_93_code 58 = .ok (.ireturn, 1) := by decide +kernel
/-! CapitalCaseModel.needsOf:(II)I -/
noncomputable def zTr_198 : Nat → Option aF := bn 28 (bn 13 (bn 5 (bn 2 (bn 1 (bl 0 (a_const 0 1)) (bl 1 (a_istore 3 2))) (bn 3 (bl 2 (a_const 0 3)) (bl 3 (a_istore 4 5)))) (bn 8 (bn 7 (bl 5 (a_iload 4 7)) (bl 7 (a_aload 0 8))) (bn 11 (bl 8 (a_getf zG0 zT0 12 36 11)) (bl 11 (a_const 7 13))))) (bn 19 (bn 17 (bn 14 (bl 13 (a_aload 0 14)) (bl 14 (a_getf zG0 zT0 12 2 17))) (bn 18 (bl 17 (a_bin fmul 18)) (bl 18 (a_iload 1 19)))) (bn 21 (bn 20 (bl 19 (a_bin fadd 20)) (bl 20 (a_ald zG0 zT0 (false, false) ts0 21))) (bn 24 (bl 21 (a_icmp 3 57 24)) (bn 25 (bl 24 (a_aload 0 25)) (bl 25 (a_getf zG0 zT0 12 37 28))))))) (bn 40 (bn 36 (bn 32 (bn 30 (bl 28 (a_const 8 30)) (bl 30 (a_const 7 32))) (bn 33 (bl 32 (a_aload 0 33)) (bl 33 (a_getf zG0 zT0 12 2 36)))) (bn 38 (bn 37 (bl 36 (a_bin fmul 37)) (bl 37 (a_iload 1 38))) (bn 39 (bl 38 (a_bin fadd 39)) (bl 39 (a_bin fmul 40))))) (bn 45 (bn 43 (bn 42 (bl 40 (a_iload 4 42)) (bl 42 (a_bin fadd 43))) (bn 44 (bl 43 (a_ald zG0 zT0 (false, false) ts0 44)) (bl 44 (a_iload 2 45)))) (bn 51 (bn 48 (bl 45 (a_icmp 1 51 48)) (bl 48 (a_iinc 3 1 51))) (bn 54 (bl 51 (a_iinc 4 1 54)) (bn 57 (bl 54 (a_goto 5)) (bl 57 (a_iload 3 58)))))))
set_option maxRecDepth 100000 in
set_option maxHeartbeats 4000000 in
theorem zTo_198 {pre : zPre} {post : zPost} (H : zTieC pre post) {d : Nat × Nat × Nat} (hd : zLe (0, 0, 0) d) : aTr zG0 zT0 zInv (false, false) PZ zbd pre post d prog_14_method_93_code "CapitalCaseModel" zTr_198 := (xB_n (xB_n (xB_n (xB_n (xB_n (xB_l ⟨_, zs_iconst (v := 0) em171_0 (by decide +kernel), as_const (by decide +kernel)⟩) (xB_l ⟨_, zs_istore_n em171_1, as_istore⟩)) (xB_n (xB_l ⟨_, zs_iconst (v := 0) em171_2 (by decide +kernel), as_const (by decide +kernel)⟩) (xB_l ⟨_, zs_istore em171_3, as_istore⟩))) (xB_n (xB_n (xB_l ⟨_, zs_iload em171_5, as_iload⟩) (xB_l ⟨_, zs_aload_n em171_7, as_aload⟩)) (xB_n (xB_l ⟨_, zs_getf (T := TX12) (M := 70) (ci := 12) (j := 36) em171_8 rfl inX12 (by decide) wd_1306 ((congrFun xo_12 52).trans rfl), as_getf zTie⟩) (xB_l ⟨_, zs_bipush (v := 7) em171_11 (by decide +kernel), as_const (by decide +kernel)⟩)))) (xB_n (xB_n (xB_n (xB_l ⟨_, zs_aload_n em171_13, as_aload⟩) (xB_l ⟨_, zs_getf (T := TX12) (M := 70) (ci := 12) (j := 2) em171_14 rfl inX12 (by decide) wd_1299 ((congrFun xo_12 230).trans rfl), as_getf zTie⟩)) (xB_n (xB_l ⟨_, zs_imul em171_17, as_bin fmul_ok⟩) (xB_l ⟨_, zs_iload_n em171_18, as_iload⟩))) (xB_n (xB_n (xB_l ⟨_, zs_iadd em171_19, as_bin fadd_ok⟩) (xB_l ⟨_, zs_iald em171_20, ag_iald⟩)) (xB_n (xB_l ⟨_, zs_icmpge em171_21 (t := 57) (by decide), as_icmp⟩) (xB_n (xB_l ⟨_, zs_aload_n em171_24, as_aload⟩) (xB_l ⟨_, zs_getf (T := TX12) (M := 70) (ci := 12) (j := 37) em171_25 rfl inX12 (by decide) wd_1307 ((congrFun xo_12 55).trans rfl), as_getf zTie⟩)))))) (xB_n (xB_n (xB_n (xB_n (xB_l ⟨_, zs_bipush (v := 8) em171_28 (by decide +kernel), as_const (by decide +kernel)⟩) (xB_l ⟨_, zs_bipush (v := 7) em171_30 (by decide +kernel), as_const (by decide +kernel)⟩)) (xB_n (xB_l ⟨_, zs_aload_n em171_32, as_aload⟩) (xB_l ⟨_, zs_getf (T := TX12) (M := 70) (ci := 12) (j := 2) em171_33 rfl inX12 (by decide) wd_1299 ((congrFun xo_12 230).trans rfl), as_getf zTie⟩))) (xB_n (xB_n (xB_l ⟨_, zs_imul em171_36, as_bin fmul_ok⟩) (xB_l ⟨_, zs_iload_n em171_37, as_iload⟩)) (xB_n (xB_l ⟨_, zs_iadd em171_38, as_bin fadd_ok⟩) (xB_l ⟨_, zs_imul em171_39, as_bin fmul_ok⟩)))) (xB_n (xB_n (xB_n (xB_l ⟨_, zs_iload em171_40, as_iload⟩) (xB_l ⟨_, zs_iadd em171_42, as_bin fadd_ok⟩)) (xB_n (xB_l ⟨_, zs_iald em171_43, ag_iald⟩) (xB_l ⟨_, zs_iload_n em171_44, as_iload⟩))) (xB_n (xB_n (xB_l ⟨_, zs_icmpne em171_45 (t := 51) (by decide), as_icmp⟩) (xB_l ⟨_, zs_iinc (k := 1) em171_48 (by decide +kernel), as_iinc (by decide +kernel)⟩)) (xB_n (xB_l ⟨_, zs_iinc (k := 1) em171_51 (by decide +kernel), as_iinc (by decide +kernel)⟩) (xB_n (xB_l ⟨_, zs_goto em171_54 (t := 5) (by decide), as_goto⟩) (xB_l ⟨_, zs_iload_n em171_57, as_iload⟩)))))))
set_option maxRecDepth 100000 in
set_option maxHeartbeats 4000000 in
theorem zM_198 : zOKa 198 zc_198 := z_auto (cuts := [(5, ([(0, 0), (0, 6), (0, 7), (0, 1), ((-2147483648), 2147483647), (0, 8)], [], [some (.inr (.inl (0, 75))), some (.inl (1, 0)), some (.inl (2, 0)), some (.inl (4, 0)), some (.inl (5, 0))], [], [(22, 3, 0)], (0, 0)), [(0, 3), (0, 4)], 8, [0, 0, 0, 0, 0, (-1)])]) (rets := [(58, 1)]) (fuel := 1000) rfl rfl (by decide) (xrt_ok (xR_c (Or.inl ⟨rfl, em171_58, rfl⟩) (xR_n))) (fun _ _ H _ hd => zTo_198 H hd) (by decide +kernel)
theorem em172_0 : decode prog_14_method_67_code 0 = .ok (.iconst 0, 1) := by decide +kernel
theorem em172_1 : decode prog_14_method_67_code 1 = .ok (.istore_n 1, 1) := by decide +kernel
theorem em172_2 : decode prog_14_method_67_code 2 = .ok (.iconst 0, 1) := by decide +kernel
theorem em172_3 : decode prog_14_method_67_code 3 = .ok (.istore_n 2, 1) := by decide +kernel
theorem em172_4 : decode prog_14_method_67_code 4 = .ok (.iload_n 2, 1) := by decide +kernel
theorem em172_5 : decode prog_14_method_67_code 5 = .ok (.aload_n 0, 1) := by decide +kernel
theorem em172_6 : decode prog_14_method_67_code 6 = .ok (.getfield 49, 3) := by decide +kernel
theorem em172_9 : decode prog_14_method_67_code 9 = .ok (.aload_n 0, 1) := by decide +kernel
theorem em172_10 : decode prog_14_method_67_code 10 = .ok (.getfield 230, 3) := by decide +kernel
theorem em172_13 : decode prog_14_method_67_code 13 = .ok (.iaload, 1) := by decide +kernel
theorem em172_14 : decode prog_14_method_67_code 14 = .ok (.if_icmp .ge 23, 3) := by decide +kernel
theorem em172_17 : decode prog_14_method_67_code 17 = .ok (.aload_n 0, 1) := by decide +kernel
theorem em172_18 : decode prog_14_method_67_code 18 = .ok (.iload_n 2, 1) := by decide +kernel
theorem em172_19 : decode prog_14_method_67_code 19 = .ok (.invokevirtual 383, 3) := by decide +kernel
theorem em172_22 : decode prog_14_method_67_code 22 = .ok (.ifCond .eq 9, 3) := by decide +kernel
theorem em172_25 : decode prog_14_method_67_code 25 = .ok (.iload_n 1, 1) := by decide +kernel
theorem em172_26 : decode prog_14_method_67_code 26 = .ok (.iconst 1, 1) := by decide +kernel
theorem em172_27 : decode prog_14_method_67_code 27 = .ok (.iload_n 2, 1) := by decide +kernel
theorem em172_28 : decode prog_14_method_67_code 28 = .ok (.ishl, 1) := by decide +kernel
theorem em172_29 : decode prog_14_method_67_code 29 = .ok (.ior, 1) := by decide +kernel
theorem em172_30 : decode prog_14_method_67_code 30 = .ok (.istore_n 1, 1) := by decide +kernel
theorem em172_31 : decode prog_14_method_67_code 31 = .ok (.iinc 2 1, 3) := by decide +kernel
theorem em172_34 : decode prog_14_method_67_code 34 = .ok (.goto (-30), 3) := by decide +kernel
theorem em172_37 : decode prog_14_method_67_code 37 = .ok (.iload_n 1, 1) := by decide +kernel
theorem em172_38 : decode prog_14_method_67_code 38 = .ok (.ireturn, 1) := by decide +kernel
/-! CapitalCaseModel.openBits:()I -/
noncomputable def zTr_199 : Nat → Option aF := bn 18 (bn 6 (bn 3 (bn 1 (bl 0 (a_const 0 1)) (bn 2 (bl 1 (a_istore 1 2)) (bl 2 (a_const 0 3)))) (bn 4 (bl 3 (a_istore 2 4)) (bn 5 (bl 4 (a_iload 2 5)) (bl 5 (a_aload 0 6))))) (bn 13 (bn 9 (bl 6 (a_getf zG0 zT0 12 4 9)) (bn 10 (bl 9 (a_aload 0 10)) (bl 10 (a_getf zG0 zT0 12 2 13)))) (bn 14 (bl 13 (a_ald zG0 zT0 (true, false) ts0 14)) (bn 17 (bl 14 (a_icmp 3 37 17)) (bl 17 (a_aload 0 18)))))) (bn 28 (bn 25 (bn 19 (bl 18 (a_iload 2 19)) (bn 22 (bl 19 (a_invV zG0 zprot (true, false) zc_179 (zbd 179) (1, 0, 0) 12 2 22)) (bl 22 (a_if 0 31 25)))) (bn 26 (bl 25 (a_iload 1 26)) (bn 27 (bl 26 (a_const 1 27)) (bl 27 (a_iload 2 28))))) (bn 31 (bn 29 (bl 28 (a_bin fshl 29)) (bn 30 (bl 29 (a_bin fany 30)) (bl 30 (a_istore 1 31)))) (bn 34 (bl 31 (a_iinc 2 1 34)) (bn 37 (bl 34 (a_goto 4)) (bl 37 (a_iload 1 38))))))
set_option maxRecDepth 100000 in
set_option maxHeartbeats 4000000 in
theorem zTo_199 {pre : zPre} {post : zPost} (H : zTieC pre post) {d : Nat × Nat × Nat} (hd : zLe (1, 0, 0) d) : aTr zG0 zT0 zInv (true, false) PZ zbd pre post d prog_14_method_67_code "CapitalCaseModel" zTr_199 := (xB_n (xB_n (xB_n (xB_n (xB_l ⟨_, zs_iconst (v := 0) em172_0 (by decide +kernel), as_const (by decide +kernel)⟩) (xB_n (xB_l ⟨_, zs_istore_n em172_1, as_istore⟩) (xB_l ⟨_, zs_iconst (v := 0) em172_2 (by decide +kernel), as_const (by decide +kernel)⟩))) (xB_n (xB_l ⟨_, zs_istore_n em172_3, as_istore⟩) (xB_n (xB_l ⟨_, zs_iload_n em172_4, as_iload⟩) (xB_l ⟨_, zs_aload_n em172_5, as_aload⟩)))) (xB_n (xB_n (xB_l ⟨_, zs_getf (T := TX12) (M := 70) (ci := 12) (j := 4) em172_6 rfl inX12 (by decide) wd_1305 ((congrFun xo_12 49).trans rfl), as_getf zTie⟩) (xB_n (xB_l ⟨_, zs_aload_n em172_9, as_aload⟩) (xB_l ⟨_, zs_getf (T := TX12) (M := 70) (ci := 12) (j := 2) em172_10 rfl inX12 (by decide) wd_1299 ((congrFun xo_12 230).trans rfl), as_getf zTie⟩))) (xB_n (xB_l ⟨_, zs_iald em172_13, ag_iald⟩) (xB_n (xB_l ⟨_, zs_icmpge em172_14 (t := 37) (by decide), as_icmp⟩) (xB_l ⟨_, zs_aload_n em172_17, as_aload⟩))))) (xB_n (xB_n (xB_n (xB_l ⟨_, zs_iload_n em172_18, as_iload⟩) (xB_n (xB_l ⟨_, zs_invV (T := TX12) em172_19 zl_179 rfl wd_1711 wd_1713 wd_87 ((congrFun xo_12 383).trans rfl) xm_153, ag_invV H zh_179 hd (by decide)⟩) (xB_l ⟨_, zs_ifeq em172_22 (t := 31) (by decide), as_if⟩))) (xB_n (xB_l ⟨_, zs_iload_n em172_25, as_iload⟩) (xB_n (xB_l ⟨_, zs_iconst (v := 1) em172_26 (by decide +kernel), as_const (by decide +kernel)⟩) (xB_l ⟨_, zs_iload_n em172_27, as_iload⟩)))) (xB_n (xB_n (xB_l ⟨_, zs_ishl em172_28, as_bin fshl_ok⟩) (xB_n (xB_l ⟨_, zs_ior em172_29, as_bin fany_ok⟩) (xB_l ⟨_, zs_istore_n em172_30, as_istore⟩))) (xB_n (xB_l ⟨_, zs_iinc (k := 1) em172_31 (by decide +kernel), as_iinc (by decide +kernel)⟩) (xB_n (xB_l ⟨_, zs_goto em172_34 (t := 4) (by decide), as_goto⟩) (xB_l ⟨_, zs_iload_n em172_37, as_iload⟩))))))
set_option maxRecDepth 100000 in
set_option maxHeartbeats 4000000 in
theorem zM_199 : zOKa 199 zc_199 := z_auto (cuts := [(4, ([(0, 0), (0, 1), ((-2147483648), 2147483647), (0, 7)], [], [some (.inr (.inl (0, 75))), some (.inl (2, 0)), some (.inl (3, 0))], [], [(22, 1, 0)], (0, 0)), [(0, 1), (0, 2)], 7, [0, 0, 0, (-1)])]) (rets := [(38, 1)]) (fuel := 1000) rfl rfl (by decide) (xrt_ok (xR_c (Or.inl ⟨rfl, em172_38, rfl⟩) (xR_n))) (fun _ _ H _ hd => zTo_199 H hd) (by decide +kernel)
theorem em173_0 : decode prog_14_method_95_code 0 = .ok (.iconst 0, 1) := by decide +kernel
theorem em173_1 : decode prog_14_method_95_code 1 = .ok (.istore 4, 2) := by decide +kernel
theorem em173_3 : decode prog_14_method_95_code 3 = .ok (.iconst 0, 1) := by decide +kernel
theorem em173_4 : decode prog_14_method_95_code 4 = .ok (.istore 5, 2) := by decide +kernel
theorem em173_6 : decode prog_14_method_95_code 6 = .ok (.iload 5, 2) := by decide +kernel
theorem em173_8 : decode prog_14_method_95_code 8 = .ok (.aload_n 0, 1) := by decide +kernel
theorem em173_9 : decode prog_14_method_95_code 9 = .ok (.getfield 49, 3) := by decide +kernel
theorem em173_12 : decode prog_14_method_95_code 12 = .ok (.aload_n 0, 1) := by decide +kernel
theorem em173_13 : decode prog_14_method_95_code 13 = .ok (.getfield 230, 3) := by decide +kernel
theorem em173_16 : decode prog_14_method_95_code 16 = .ok (.iaload, 1) := by decide +kernel
theorem em173_17 : decode prog_14_method_95_code 17 = .ok (.if_icmp .ge 86, 3) := by decide +kernel
theorem em173_20 : decode prog_14_method_95_code 20 = .ok (.aload_n 0, 1) := by decide +kernel
theorem em173_21 : decode prog_14_method_95_code 21 = .ok (.iload 5, 2) := by decide +kernel
theorem em173_23 : decode prog_14_method_95_code 23 = .ok (.invokevirtual 383, 3) := by decide +kernel
theorem em173_26 : decode prog_14_method_95_code 26 = .ok (.istore 6, 2) := by decide +kernel
theorem em173_28 : decode prog_14_method_95_code 28 = .ok (.iconst 0, 1) := by decide +kernel
theorem em173_29 : decode prog_14_method_95_code 29 = .ok (.istore 7, 2) := by decide +kernel
theorem em173_31 : decode prog_14_method_95_code 31 = .ok (.iload 7, 2) := by decide +kernel
theorem em173_33 : decode prog_14_method_95_code 33 = .ok (.bipush 8, 2) := by decide +kernel
theorem em173_35 : decode prog_14_method_95_code 35 = .ok (.if_icmp .ge 54, 3) := by decide +kernel
theorem em173_38 : decode prog_14_method_95_code 38 = .ok (.aload_n 0, 1) := by decide +kernel
theorem em173_39 : decode prog_14_method_95_code 39 = .ok (.iload 5, 2) := by decide +kernel
theorem em173_41 : decode prog_14_method_95_code 41 = .ok (.iload 7, 2) := by decide +kernel
theorem em173_43 : decode prog_14_method_95_code 43 = .ok (.invokevirtual 457, 3) := by decide +kernel
theorem em173_46 : decode prog_14_method_95_code 46 = .ok (.aload_n 0, 1) := by decide +kernel
theorem em173_47 : decode prog_14_method_95_code 47 = .ok (.iload_n 1, 1) := by decide +kernel
theorem em173_48 : decode prog_14_method_95_code 48 = .ok (.iload 7, 2) := by decide +kernel
theorem em173_50 : decode prog_14_method_95_code 50 = .ok (.invokevirtual 368, 3) := by decide +kernel
theorem em173_53 : decode prog_14_method_95_code 53 = .ok (.iload 7, 2) := by decide +kernel
theorem em173_55 : decode prog_14_method_95_code 55 = .ok (.iload_n 2, 1) := by decide +kernel
theorem em173_56 : decode prog_14_method_95_code 56 = .ok (.if_icmp .ne 7, 3) := by decide +kernel
theorem em173_59 : decode prog_14_method_95_code 59 = .ok (.iconst 1, 1) := by decide +kernel
theorem em173_60 : decode prog_14_method_95_code 60 = .ok (.goto 4, 3) := by decide +kernel
theorem em173_63 : decode prog_14_method_95_code 63 = .ok (.iconst 0, 1) := by decide +kernel
theorem em173_64 : decode prog_14_method_95_code 64 = .ok (.iadd, 1) := by decide +kernel
theorem em173_65 : decode prog_14_method_95_code 65 = .ok (.iload 7, 2) := by decide +kernel
theorem em173_67 : decode prog_14_method_95_code 67 = .ok (.iload_n 3, 1) := by decide +kernel
theorem em173_68 : decode prog_14_method_95_code 68 = .ok (.if_icmp .ne 7, 3) := by decide +kernel
theorem em173_71 : decode prog_14_method_95_code 71 = .ok (.iconst 1, 1) := by decide +kernel
theorem em173_72 : decode prog_14_method_95_code 72 = .ok (.goto 4, 3) := by decide +kernel
theorem em173_75 : decode prog_14_method_95_code 75 = .ok (.iconst 0, 1) := by decide +kernel
theorem em173_76 : decode prog_14_method_95_code 76 = .ok (.isub, 1) := by decide +kernel
theorem em173_77 : decode prog_14_method_95_code 77 = .ok (.if_icmp .le 6, 3) := by decide +kernel
theorem em173_80 : decode prog_14_method_95_code 80 = .ok (.iconst 0, 1) := by decide +kernel
theorem em173_81 : decode prog_14_method_95_code 81 = .ok (.istore 6, 2) := by decide +kernel
theorem em173_83 : decode prog_14_method_95_code 83 = .ok (.iinc 7 1, 3) := by decide +kernel
theorem em173_86 : decode prog_14_method_95_code 86 = .ok (.goto (-55), 3) := by decide +kernel
theorem em173_89 : decode prog_14_method_95_code 89 = .ok (.iload 6, 2) := by decide +kernel
theorem em173_91 : decode prog_14_method_95_code 91 = .ok (.ifCond .eq 6, 3) := by decide +kernel
theorem em173_94 : decode prog_14_method_95_code 94 = .ok (.iinc 4 1, 3) := by decide +kernel
theorem em173_97 : decode prog_14_method_95_code 97 = .ok (.iinc 5 1, 3) := by decide +kernel
theorem em173_100 : decode prog_14_method_95_code 100 = .ok (.goto (-94), 3) := by decide +kernel
theorem em173_103 : decode prog_14_method_95_code 103 = .ok (.iload 4, 2) := by decide +kernel
theorem em173_105 : decode prog_14_method_95_code 105 = .ok (.ireturn, 1) := by decide +kernel
/-! CapitalCaseModel.ownVerses:(III)I -/
noncomputable def zTr_200 : Nat → Option aF := bn 48 (bn 23 (bn 9 (bn 4 (bn 1 (bl 0 (a_const 0 1)) (bn 3 (bl 1 (a_istore 4 3)) (bl 3 (a_const 0 4)))) (bn 6 (bl 4 (a_istore 5 6)) (bn 8 (bl 6 (a_iload 5 8)) (bl 8 (a_aload 0 9))))) (bn 16 (bn 12 (bl 9 (a_getf zG0 zT0 12 4 12)) (bn 13 (bl 12 (a_aload 0 13)) (bl 13 (a_getf zG0 zT0 12 2 16)))) (bn 20 (bn 17 (bl 16 (a_ald zG0 zT0 (true, false) ts0 17)) (bl 17 (a_icmp 3 103 20))) (bn 21 (bl 20 (a_aload 0 21)) (bl 21 (a_iload 5 23)))))) (bn 35 (bn 29 (bn 26 (bl 23 (a_invV zG0 zprot (true, false) zc_179 (zbd 179) (1, 0, 0) 12 2 26)) (bn 28 (bl 26 (a_istore 6 28)) (bl 28 (a_const 0 29)))) (bn 31 (bl 29 (a_istore 7 31)) (bn 33 (bl 31 (a_iload 7 33)) (bl 33 (a_const 8 35))))) (bn 41 (bn 38 (bl 35 (a_icmp 3 89 38)) (bn 39 (bl 38 (a_aload 0 39)) (bl 39 (a_iload 5 41)))) (bn 46 (bn 43 (bl 41 (a_iload 7 43)) (bl 43 (a_invV zG0 zprot (true, false) zc_198 (zbd 198) (1, 0, 0) 12 3 46))) (bn 47 (bl 46 (a_aload 0 47)) (bl 47 (a_iload 1 48))))))) (bn 72 (bn 60 (bn 55 (bn 50 (bl 48 (a_iload 7 50)) (bn 53 (bl 50 (a_invV zG0 zprot (true, false) zc_145 (zbd 145) (1, 0, 0) 12 3 53)) (bl 53 (a_iload 7 55)))) (bn 56 (bl 55 (a_iload 2 56)) (bn 59 (bl 56 (a_icmp 1 63 59)) (bl 59 (a_const 1 60))))) (bn 65 (bn 63 (bl 60 (a_goto 64)) (bn 64 (bl 63 (a_const 0 64)) (bl 64 (a_bin fadd 65)))) (bn 68 (bn 67 (bl 65 (a_iload 7 67)) (bl 67 (a_iload 3 68))) (bn 71 (bl 68 (a_icmp 1 75 71)) (bl 71 (a_const 1 72)))))) (bn 86 (bn 77 (bn 75 (bl 72 (a_goto 76)) (bn 76 (bl 75 (a_const 0 76)) (bl 76 (a_bin fsub 77)))) (bn 81 (bn 80 (bl 77 (a_icmp 5 83 80)) (bl 80 (a_const 0 81))) (bn 83 (bl 81 (a_istore 6 83)) (bl 83 (a_iinc 7 1 86))))) (bn 94 (bn 89 (bl 86 (a_goto 31)) (bn 91 (bl 89 (a_iload 6 91)) (bl 91 (a_if 0 97 94)))) (bn 100 (bn 97 (bl 94 (a_iinc 4 1 97)) (bl 97 (a_iinc 5 1 100))) (bn 103 (bl 100 (a_goto 6)) (bl 103 (a_iload 4 105)))))))
set_option maxRecDepth 100000 in
set_option maxHeartbeats 4000000 in
theorem zTo_200 {pre : zPre} {post : zPost} (H : zTieC pre post) {d : Nat × Nat × Nat} (hd : zLe (1, 0, 0) d) : aTr zG0 zT0 zInv (true, false) PZ zbd pre post d prog_14_method_95_code "CapitalCaseModel" zTr_200 := (xB_n (xB_n (xB_n (xB_n (xB_n (xB_l ⟨_, zs_iconst (v := 0) em173_0 (by decide +kernel), as_const (by decide +kernel)⟩) (xB_n (xB_l ⟨_, zs_istore em173_1, as_istore⟩) (xB_l ⟨_, zs_iconst (v := 0) em173_3 (by decide +kernel), as_const (by decide +kernel)⟩))) (xB_n (xB_l ⟨_, zs_istore em173_4, as_istore⟩) (xB_n (xB_l ⟨_, zs_iload em173_6, as_iload⟩) (xB_l ⟨_, zs_aload_n em173_8, as_aload⟩)))) (xB_n (xB_n (xB_l ⟨_, zs_getf (T := TX12) (M := 70) (ci := 12) (j := 4) em173_9 rfl inX12 (by decide) wd_1305 ((congrFun xo_12 49).trans rfl), as_getf zTie⟩) (xB_n (xB_l ⟨_, zs_aload_n em173_12, as_aload⟩) (xB_l ⟨_, zs_getf (T := TX12) (M := 70) (ci := 12) (j := 2) em173_13 rfl inX12 (by decide) wd_1299 ((congrFun xo_12 230).trans rfl), as_getf zTie⟩))) (xB_n (xB_n (xB_l ⟨_, zs_iald em173_16, ag_iald⟩) (xB_l ⟨_, zs_icmpge em173_17 (t := 103) (by decide), as_icmp⟩)) (xB_n (xB_l ⟨_, zs_aload_n em173_20, as_aload⟩) (xB_l ⟨_, zs_iload em173_21, as_iload⟩))))) (xB_n (xB_n (xB_n (xB_l ⟨_, zs_invV (T := TX12) em173_23 zl_179 rfl wd_1711 wd_1713 wd_87 ((congrFun xo_12 383).trans rfl) xm_153, ag_invV H zh_179 hd (by decide)⟩) (xB_n (xB_l ⟨_, zs_istore em173_26, as_istore⟩) (xB_l ⟨_, zs_iconst (v := 0) em173_28 (by decide +kernel), as_const (by decide +kernel)⟩))) (xB_n (xB_l ⟨_, zs_istore em173_29, as_istore⟩) (xB_n (xB_l ⟨_, zs_iload em173_31, as_iload⟩) (xB_l ⟨_, zs_bipush (v := 8) em173_33 (by decide +kernel), as_const (by decide +kernel)⟩)))) (xB_n (xB_n (xB_l ⟨_, zs_icmpge em173_35 (t := 89) (by decide), as_icmp⟩) (xB_n (xB_l ⟨_, zs_aload_n em173_38, as_aload⟩) (xB_l ⟨_, zs_iload em173_39, as_iload⟩))) (xB_n (xB_n (xB_l ⟨_, zs_iload em173_41, as_iload⟩) (xB_l ⟨_, zs_invV (T := TX12) em173_43 zl_198 rfl wd_1830 wd_1832 wd_104 ((congrFun xo_12 457).trans rfl) xm_171, ag_invV H zh_198 hd (by decide)⟩)) (xB_n (xB_l ⟨_, zs_aload_n em173_46, as_aload⟩) (xB_l ⟨_, zs_iload_n em173_47, as_iload⟩)))))) (xB_n (xB_n (xB_n (xB_n (xB_l ⟨_, zs_iload em173_48, as_iload⟩) (xB_n (xB_l ⟨_, zs_invV (T := TX12) em173_50 zl_145 rfl wd_1639 wd_1641 wd_74 ((congrFun xo_12 368).trans rfl) xm_138, ag_invV H zh_145 hd (by decide)⟩) (xB_l ⟨_, zs_iload em173_53, as_iload⟩))) (xB_n (xB_l ⟨_, zs_iload_n em173_55, as_iload⟩) (xB_n (xB_l ⟨_, zs_icmpne em173_56 (t := 63) (by decide), as_icmp⟩) (xB_l ⟨_, zs_iconst (v := 1) em173_59 (by decide +kernel), as_const (by decide +kernel)⟩)))) (xB_n (xB_n (xB_l ⟨_, zs_goto em173_60 (t := 64) (by decide), as_goto⟩) (xB_n (xB_l ⟨_, zs_iconst (v := 0) em173_63 (by decide +kernel), as_const (by decide +kernel)⟩) (xB_l ⟨_, zs_iadd em173_64, as_bin fadd_ok⟩))) (xB_n (xB_n (xB_l ⟨_, zs_iload em173_65, as_iload⟩) (xB_l ⟨_, zs_iload_n em173_67, as_iload⟩)) (xB_n (xB_l ⟨_, zs_icmpne em173_68 (t := 75) (by decide), as_icmp⟩) (xB_l ⟨_, zs_iconst (v := 1) em173_71 (by decide +kernel), as_const (by decide +kernel)⟩))))) (xB_n (xB_n (xB_n (xB_l ⟨_, zs_goto em173_72 (t := 76) (by decide), as_goto⟩) (xB_n (xB_l ⟨_, zs_iconst (v := 0) em173_75 (by decide +kernel), as_const (by decide +kernel)⟩) (xB_l ⟨_, zs_isub em173_76, as_bin fsub_ok⟩))) (xB_n (xB_n (xB_l ⟨_, zs_icmple em173_77 (t := 83) (by decide), as_icmp⟩) (xB_l ⟨_, zs_iconst (v := 0) em173_80 (by decide +kernel), as_const (by decide +kernel)⟩)) (xB_n (xB_l ⟨_, zs_istore em173_81, as_istore⟩) (xB_l ⟨_, zs_iinc (k := 1) em173_83 (by decide +kernel), as_iinc (by decide +kernel)⟩)))) (xB_n (xB_n (xB_l ⟨_, zs_goto em173_86 (t := 31) (by decide), as_goto⟩) (xB_n (xB_l ⟨_, zs_iload em173_89, as_iload⟩) (xB_l ⟨_, zs_ifeq em173_91 (t := 97) (by decide), as_if⟩))) (xB_n (xB_n (xB_l ⟨_, zs_iinc (k := 1) em173_94 (by decide +kernel), as_iinc (by decide +kernel)⟩) (xB_l ⟨_, zs_iinc (k := 1) em173_97 (by decide +kernel), as_iinc (by decide +kernel)⟩)) (xB_n (xB_l ⟨_, zs_goto em173_100 (t := 6) (by decide), as_goto⟩) (xB_l ⟨_, zs_iload em173_103, as_iload⟩)))))))
set_option maxRecDepth 100000 in
set_option maxHeartbeats 4000000 in
theorem zM_200 : zOKa 200 zc_200 := z_auto (cuts := [(6, ([(0, 0), (0, 4), ((-1), 7), ((-1), 7), (0, 1), ((-2147483648), 2147483647), (0, 7)], [], [some (.inr (.inl (0, 75))), some (.inl (1, 0)), some (.inl (2, 0)), some (.inl (3, 0)), some (.inl (5, 0)), some (.inl (6, 0)), none, none], [], [(22, 4, 0)], (0, 0)), [(0, 4), (0, 5)], 79, [0, 0, 0, 0, 0, 0, (-10)]), (31, ([(0, 0), (0, 4), ((-1), 7), ((-1), 7), (0, 1), ((-2147483648), 2147483647), (0, 6), (0, 1), (0, 8)], [], [some (.inr (.inl (0, 75))), some (.inl (1, 0)), some (.inl (2, 0)), some (.inl (3, 0)), some (.inl (5, 0)), some (.inl (6, 0)), some (.inl (7, 0)), some (.inl (8, 0))], [], [(22, 4, 0)], (0, 0)), [(0, 4), (0, 5), (0, 6), (0, 7)], 78, [0, 0, 0, 0, 0, 0, (-10), 0, (-1)])]) (rets := [(105, 1)]) (fuel := 1000) rfl rfl (by decide) (xrt_ok (xR_c (Or.inl ⟨rfl, em173_105, rfl⟩) (xR_n))) (fun _ _ H _ hd => zTo_200 H hd) (by decide +kernel)
theorem em174_0 : decode prog_14_method_104_code 0 = .ok (.iload_n 1, 1) := by decide +kernel
theorem em174_1 : decode prog_14_method_104_code 1 = .ok (.invokestatic 430, 3) := by decide +kernel
theorem em174_4 : decode prog_14_method_104_code 4 = .ok (.ifCond .ne 5, 3) := by decide +kernel
theorem em174_7 : decode prog_14_method_104_code 7 = .ok (.iconst (-1), 1) := by decide +kernel
theorem em174_8 : decode prog_14_method_104_code 8 = .ok (.ireturn, 1) := by decide +kernel
theorem em174_9 : decode prog_14_method_104_code 9 = .ok (.aload_n 0, 1) := by decide +kernel
theorem em174_10 : decode prog_14_method_104_code 10 = .ok (.invokevirtual 411, 3) := by decide +kernel
theorem em174_13 : decode prog_14_method_104_code 13 = .ok (.aload_n 0, 1) := by decide +kernel
theorem em174_14 : decode prog_14_method_104_code 14 = .ok (.iload_n 1, 1) := by decide +kernel
theorem em174_15 : decode prog_14_method_104_code 15 = .ok (.invokevirtual 433, 3) := by decide +kernel
theorem em174_18 : decode prog_14_method_104_code 18 = .ok (.aload_n 0, 1) := by decide +kernel
theorem em174_19 : decode prog_14_method_104_code 19 = .ok (.getfield 116, 3) := by decide +kernel
theorem em174_22 : decode prog_14_method_104_code 22 = .ok (.sipush 387, 3) := by decide +kernel
theorem em174_25 : decode prog_14_method_104_code 25 = .ok (.iaload, 1) := by decide +kernel
theorem em174_26 : decode prog_14_method_104_code 26 = .ok (.aload_n 0, 1) := by decide +kernel
theorem em174_27 : decode prog_14_method_104_code 27 = .ok (.getfield 113, 3) := by decide +kernel
theorem em174_30 : decode prog_14_method_104_code 30 = .ok (.sipush 387, 3) := by decide +kernel
theorem em174_33 : decode prog_14_method_104_code 33 = .ok (.iaload, 1) := by decide +kernel
theorem em174_34 : decode prog_14_method_104_code 34 = .ok (.isub, 1) := by decide +kernel
theorem em174_35 : decode prog_14_method_104_code 35 = .ok (.ireturn, 1) := by decide +kernel
/-! CapitalCaseModel.paidIn:(I)I -/
noncomputable def zTr_201 : Nat → Option aF := bn 18 (bn 9 (bn 4 (bn 1 (bl 0 (a_iload 1 1)) (bl 1 (a_inv zG0 zprot (true, false) zc_178 (zbd 178) (9, 0, 0) 1 4))) (bn 7 (bl 4 (a_if 1 9 7)) (bl 7 (a_const (-1) 8)))) (bn 13 (bn 10 (bl 9 (a_aload 0 10)) (bl 10 (a_invV zG0 zprot (true, false) zc_136 (zbd 136) (9, 0, 0) 12 1 13))) (bn 14 (bl 13 (a_aload 0 14)) (bn 15 (bl 14 (a_iload 1 15)) (bl 15 (a_invV zG0 zprot (true, false) zc_150 (zbd 150) (9, 0, 0) 12 2 18)))))) (bn 26 (bn 22 (bn 19 (bl 18 (a_aload 0 19)) (bl 19 (a_getf zG0 zT0 12 0 22))) (bn 25 (bl 22 (a_const 387 25)) (bl 25 (a_ald zG0 zT0 (true, false) ts0 26)))) (bn 30 (bn 27 (bl 26 (a_aload 0 27)) (bl 27 (a_getf zG0 zT0 12 1 30))) (bn 33 (bl 30 (a_const 387 33)) (bn 34 (bl 33 (a_ald zG0 zT0 (true, false) ts0 34)) (bl 34 (a_bin fsub 35))))))
set_option maxRecDepth 100000 in
set_option maxHeartbeats 4000000 in
theorem zTo_201 {pre : zPre} {post : zPost} (H : zTieC pre post) {d : Nat × Nat × Nat} (hd : zLe (9, 0, 0) d) : aTr zG0 zT0 zInv (true, false) PZ zbd pre post d prog_14_method_104_code "CapitalCaseModel" zTr_201 := (xB_n (xB_n (xB_n (xB_n (xB_l ⟨_, zs_iload_n em174_0, as_iload⟩) (xB_l ⟨_, zs_invS em174_1 zl_178 wd_1751 wd_1752 ((congrFun xo_12 430).trans rfl) xm_152, ag_inv H zh_178 hd (by decide)⟩)) (xB_n (xB_l ⟨_, zs_ifne em174_4 (t := 9) (by decide), as_if⟩) (xB_l ⟨_, zs_iconst (v := (-1)) em174_7 (by decide +kernel), as_const (by decide +kernel)⟩))) (xB_n (xB_n (xB_l ⟨_, zs_aload_n em174_9, as_aload⟩) (xB_l ⟨_, zs_invV (T := TX12) em174_10 zl_136 rfl wd_1635 wd_1637 wd_73 ((congrFun xo_12 411).trans rfl) xm_129, ag_invV H zh_136 hd (by decide)⟩)) (xB_n (xB_l ⟨_, zs_aload_n em174_13, as_aload⟩) (xB_n (xB_l ⟨_, zs_iload_n em174_14, as_iload⟩) (xB_l ⟨_, zs_invV (T := TX12) em174_15 zl_150 rfl wd_1754 wd_1756 wd_93 ((congrFun xo_12 433).trans rfl) xm_143, ag_invV H zh_150 hd (by decide)⟩))))) (xB_n (xB_n (xB_n (xB_l ⟨_, zs_aload_n em174_18, as_aload⟩) (xB_l ⟨_, zs_getf (T := TX12) (M := 70) (ci := 12) (j := 0) em174_19 rfl inX12 (by decide) wd_1332 ((congrFun xo_12 116).trans rfl), as_getf zTie⟩)) (xB_n (xB_l ⟨_, zs_sipush (v := 387) em174_22 (by decide +kernel), as_const (by decide +kernel)⟩) (xB_l ⟨_, zs_iald em174_25, ag_iald⟩))) (xB_n (xB_n (xB_l ⟨_, zs_aload_n em174_26, as_aload⟩) (xB_l ⟨_, zs_getf (T := TX12) (M := 70) (ci := 12) (j := 1) em174_27 rfl inX12 (by decide) wd_1331 ((congrFun xo_12 113).trans rfl), as_getf zTie⟩)) (xB_n (xB_l ⟨_, zs_sipush (v := 387) em174_30 (by decide +kernel), as_const (by decide +kernel)⟩) (xB_n (xB_l ⟨_, zs_iald em174_33, ag_iald⟩) (xB_l ⟨_, zs_isub em174_34, as_bin fsub_ok⟩))))))
set_option maxRecDepth 100000 in
set_option maxHeartbeats 4000000 in
theorem zM_201 : zOKa 201 zc_201 := z_auto (cuts := []) (rets := [(8, 1), (35, 1)]) (fuel := 1000) rfl rfl (by decide) (xrt_ok (xR_c (Or.inl ⟨rfl, em174_8, rfl⟩) (xR_c (Or.inl ⟨rfl, em174_35, rfl⟩) (xR_n)))) (fun _ _ H _ hd => zTo_201 H hd) (by decide +kernel)
theorem em175_0 : decode prog_14_method_62_code 0 = .ok (.aload_n 0, 1) := by decide +kernel
theorem em175_1 : decode prog_14_method_62_code 1 = .ok (.invokevirtual 344, 3) := by decide +kernel
theorem em175_4 : decode prog_14_method_62_code 4 = .ok (.aload_n 0, 1) := by decide +kernel
theorem em175_5 : decode prog_14_method_62_code 5 = .ok (.iload_n 1, 1) := by decide +kernel
theorem em175_6 : decode prog_14_method_62_code 6 = .ok (.invokevirtual 356, 3) := by decide +kernel
theorem em175_9 : decode prog_14_method_62_code 9 = .ok (.aload_n 0, 1) := by decide +kernel
theorem em175_10 : decode prog_14_method_62_code 10 = .ok (.iconst 3, 1) := by decide +kernel
theorem em175_11 : decode prog_14_method_62_code 11 = .ok (.aload_n 0, 1) := by decide +kernel
theorem em175_12 : decode prog_14_method_62_code 12 = .ok (.getfield 107, 3) := by decide +kernel
theorem em175_15 : decode prog_14_method_62_code 15 = .ok (.iconst 0, 1) := by decide +kernel
theorem em175_16 : decode prog_14_method_62_code 16 = .ok (.iaload, 1) := by decide +kernel
theorem em175_17 : decode prog_14_method_62_code 17 = .ok (.invokevirtual 359, 3) := by decide +kernel
theorem em175_20 : decode prog_14_method_62_code 20 = .ok (.iconst 0, 1) := by decide +kernel
theorem em175_21 : decode prog_14_method_62_code 21 = .ok (.bipush 99, 2) := by decide +kernel
theorem em175_23 : decode prog_14_method_62_code 23 = .ok (.invokestatic 362, 3) := by decide +kernel
theorem em175_26 : decode prog_14_method_62_code 26 = .ok (.ireturn, 1) := by decide +kernel
/-! CapitalCaseModel.paysOf:(I)I -/
noncomputable def zTr_202 : Nat → Option aF := bn 11 (bn 5 (bn 1 (bl 0 (a_aload 0 1)) (bn 4 (bl 1 (a_invV zG0 zprot (true, false) zc_190 (zbd 190) (6, 0, 0) 12 1 4)) (bl 4 (a_aload 0 5)))) (bn 9 (bn 6 (bl 5 (a_iload 1 6)) (bl 6 (a_invV zG0 zprot (true, false) zc_192 (zbd 192) (6, 0, 0) 12 2 9))) (bn 10 (bl 9 (a_aload 0 10)) (bl 10 (a_const 3 11))))) (bn 17 (bn 15 (bn 12 (bl 11 (a_aload 0 12)) (bl 12 (a_getf zG0 zT0 12 56 15))) (bn 16 (bl 15 (a_const 0 16)) (bl 16 (a_ald zG0 zT0 (true, false) ts0 17)))) (bn 21 (bn 20 (bl 17 (a_invV zG0 zprot (true, false) zc_185 (zbd 185) (6, 0, 0) 12 3 20)) (bl 20 (a_const 0 21))) (bn 23 (bl 21 (a_const 99 23)) (bl 23 (a_inv zG0 zprot (true, false) zc_152 (zbd 152) (6, 0, 0) 3 26)))))
set_option maxRecDepth 100000 in
set_option maxHeartbeats 4000000 in
theorem zTo_202 {pre : zPre} {post : zPost} (H : zTieC pre post) {d : Nat × Nat × Nat} (hd : zLe (6, 0, 0) d) : aTr zG0 zT0 zInv (true, false) PZ zbd pre post d prog_14_method_62_code "CapitalCaseModel" zTr_202 := (xB_n (xB_n (xB_n (xB_l ⟨_, zs_aload_n em175_0, as_aload⟩) (xB_n (xB_l ⟨_, zs_invV (T := TX12) em175_1 zl_190 rfl wd_1659 wd_1661 wd_79 ((congrFun xo_12 344).trans rfl) xm_164, ag_invV H zh_190 hd (by decide)⟩) (xB_l ⟨_, zs_aload_n em175_4, as_aload⟩))) (xB_n (xB_n (xB_l ⟨_, zs_iload_n em175_5, as_iload⟩) (xB_l ⟨_, zs_invV (T := TX12) em175_6 zl_192 rfl wd_1686 wd_1688 wd_84 ((congrFun xo_12 356).trans rfl) xm_166, ag_invV H zh_192 hd (by decide)⟩)) (xB_n (xB_l ⟨_, zs_aload_n em175_9, as_aload⟩) (xB_l ⟨_, zs_iconst (v := 3) em175_10 (by decide +kernel), as_const (by decide +kernel)⟩)))) (xB_n (xB_n (xB_n (xB_l ⟨_, zs_aload_n em175_11, as_aload⟩) (xB_l ⟨_, zs_getf (T := TX12) (M := 70) (ci := 12) (j := 56) em175_12 rfl inX12 (by decide) wd_1328 ((congrFun xo_12 107).trans rfl), as_getf zTie⟩)) (xB_n (xB_l ⟨_, zs_iconst (v := 0) em175_15 (by decide +kernel), as_const (by decide +kernel)⟩) (xB_l ⟨_, zs_iald em175_16, ag_iald⟩))) (xB_n (xB_n (xB_l ⟨_, zs_invV (T := TX12) em175_17 zl_185 rfl wd_1663 wd_1665 wd_80 ((congrFun xo_12 359).trans rfl) xm_159, ag_invV H zh_185 hd (by decide)⟩) (xB_l ⟨_, zs_iconst (v := 0) em175_20 (by decide +kernel), as_const (by decide +kernel)⟩)) (xB_n (xB_l ⟨_, zs_bipush (v := 99) em175_21 (by decide +kernel), as_const (by decide +kernel)⟩) (xB_l ⟨_, zs_invS em175_23 zl_152 wd_1671 wd_1672 ((congrFun xo_12 362).trans rfl) xm_145, ag_inv H zh_152 hd (by decide)⟩)))))
set_option maxRecDepth 100000 in
set_option maxHeartbeats 4000000 in
theorem zM_202 : zOKa 202 zc_202 := z_auto (cuts := []) (rets := [(26, 1)]) (fuel := 1000) rfl rfl (by decide) (xrt_ok (xR_c (Or.inl ⟨rfl, em175_26, rfl⟩) (xR_n))) (fun _ _ H _ hd => zTo_202 H hd) (by decide +kernel)
theorem em176_0 : decode prog_14_method_90_code 0 = .ok (.iload_n 1, 1) := by decide +kernel
theorem em176_1 : decode prog_14_method_90_code 1 = .ok (.iconst 0, 1) := by decide +kernel
theorem em176_2 : decode prog_14_method_90_code 2 = .ok (.iconst 1, 1) := by decide +kernel
theorem em176_3 : decode prog_14_method_90_code 3 = .ok (.invokestatic 324, 3) := by decide +kernel
theorem em176_6 : decode prog_14_method_90_code 6 = .ok (.ifCond .ne 5, 3) := by decide +kernel
theorem em176_9 : decode prog_14_method_90_code 9 = .ok (.iconst (-1), 1) := by decide +kernel
theorem em176_10 : decode prog_14_method_90_code 10 = .ok (.ireturn, 1) := by decide +kernel
theorem em176_11 : decode prog_14_method_90_code 11 = .ok (.bipush (-2), 2) := by decide +kernel
theorem em176_13 : decode prog_14_method_90_code 13 = .ok (.istore_n 2, 1) := by decide +kernel
theorem em176_14 : decode prog_14_method_90_code 14 = .ok (.bipush (-2), 2) := by decide +kernel
theorem em176_16 : decode prog_14_method_90_code 16 = .ok (.istore_n 3, 1) := by decide +kernel
theorem em176_17 : decode prog_14_method_90_code 17 = .ok (.iconst 0, 1) := by decide +kernel
theorem em176_18 : decode prog_14_method_90_code 18 = .ok (.istore 4, 2) := by decide +kernel
theorem em176_20 : decode prog_14_method_90_code 20 = .ok (.iload 4, 2) := by decide +kernel
theorem em176_22 : decode prog_14_method_90_code 22 = .ok (.aload_n 0, 1) := by decide +kernel
theorem em176_23 : decode prog_14_method_90_code 23 = .ok (.getfield 43, 3) := by decide +kernel
theorem em176_26 : decode prog_14_method_90_code 26 = .ok (.aload_n 0, 1) := by decide +kernel
theorem em176_27 : decode prog_14_method_90_code 27 = .ok (.getfield 230, 3) := by decide +kernel
theorem em176_30 : decode prog_14_method_90_code 30 = .ok (.iaload, 1) := by decide +kernel
theorem em176_31 : decode prog_14_method_90_code 31 = .ok (.if_icmp .ge 46, 3) := by decide +kernel
theorem em176_34 : decode prog_14_method_90_code 34 = .ok (.aload_n 0, 1) := by decide +kernel
theorem em176_35 : decode prog_14_method_90_code 35 = .ok (.invokevirtual 411, 3) := by decide +kernel
theorem em176_38 : decode prog_14_method_90_code 38 = .ok (.aload_n 0, 1) := by decide +kernel
theorem em176_39 : decode prog_14_method_90_code 39 = .ok (.iload 4, 2) := by decide +kernel
theorem em176_41 : decode prog_14_method_90_code 41 = .ok (.putfield 334, 3) := by decide +kernel
theorem em176_44 : decode prog_14_method_90_code 44 = .ok (.aload_n 0, 1) := by decide +kernel
theorem em176_45 : decode prog_14_method_90_code 45 = .ok (.invokevirtual 451, 3) := by decide +kernel
theorem em176_48 : decode prog_14_method_90_code 48 = .ok (.iload_n 2, 1) := by decide +kernel
theorem em176_49 : decode prog_14_method_90_code 49 = .ok (.ifCond .lt 14, 3) := by decide +kernel
theorem em176_52 : decode prog_14_method_90_code 52 = .ok (.aload_n 0, 1) := by decide +kernel
theorem em176_53 : decode prog_14_method_90_code 53 = .ok (.getfield 442, 3) := by decide +kernel
theorem em176_56 : decode prog_14_method_90_code 56 = .ok (.iload_n 3, 1) := by decide +kernel
theorem em176_57 : decode prog_14_method_90_code 57 = .ok (.if_icmp .lt 6, 3) := by decide +kernel
theorem em176_60 : decode prog_14_method_90_code 60 = .ok (.goto 11, 3) := by decide +kernel
theorem em176_63 : decode prog_14_method_90_code 63 = .ok (.iload 4, 2) := by decide +kernel
theorem em176_65 : decode prog_14_method_90_code 65 = .ok (.istore_n 2, 1) := by decide +kernel
theorem em176_66 : decode prog_14_method_90_code 66 = .ok (.aload_n 0, 1) := by decide +kernel
theorem em176_67 : decode prog_14_method_90_code 67 = .ok (.getfield 442, 3) := by decide +kernel
theorem em176_70 : decode prog_14_method_90_code 70 = .ok (.istore_n 3, 1) := by decide +kernel
theorem em176_71 : decode prog_14_method_90_code 71 = .ok (.iinc 4 1, 3) := by decide +kernel
theorem em176_74 : decode prog_14_method_90_code 74 = .ok (.goto (-54), 3) := by decide +kernel
theorem em176_77 : decode prog_14_method_90_code 77 = .ok (.iload_n 1, 1) := by decide +kernel
theorem em176_78 : decode prog_14_method_90_code 78 = .ok (.ifCond .ne 7, 3) := by decide +kernel
theorem em176_81 : decode prog_14_method_90_code 81 = .ok (.iload_n 2, 1) := by decide +kernel
theorem em176_82 : decode prog_14_method_90_code 82 = .ok (.goto 4, 3) := by decide +kernel
theorem em176_85 : decode prog_14_method_90_code 85 = .ok (.iload_n 3, 1) := by decide +kernel
theorem em176_86 : decode prog_14_method_90_code 86 = .ok (.ireturn, 1) := by decide +kernel
/-! CapitalCaseModel.pillar:(I)I -/
noncomputable def zTr_203 : Nat → Option aF := bn 39 (bn 18 (bn 9 (bn 2 (bn 1 (bl 0 (a_iload 1 1)) (bl 1 (a_const 0 2))) (bn 3 (bl 2 (a_const 1 3)) (bn 6 (bl 3 (a_inv zG0 zprot (true, false) zc_164 (zbd 164) (11, 0, 0) 3 6)) (bl 6 (a_if 1 11 9))))) (bn 14 (bn 11 (bl 9 (a_const (-1) 10)) (bn 13 (bl 11 (a_const (-2) 13)) (bl 13 (a_istore 2 14)))) (bn 16 (bl 14 (a_const (-2) 16)) (bn 17 (bl 16 (a_istore 3 17)) (bl 17 (a_const 0 18)))))) (bn 27 (bn 22 (bn 20 (bl 18 (a_istore 4 20)) (bl 20 (a_iload 4 22))) (bn 23 (bl 22 (a_aload 0 23)) (bn 26 (bl 23 (a_getf zG0 zT0 12 3 26)) (bl 26 (a_aload 0 27))))) (bn 34 (bn 30 (bl 27 (a_getf zG0 zT0 12 2 30)) (bn 31 (bl 30 (a_ald zG0 zT0 (true, false) ts0 31)) (bl 31 (a_icmp 3 77 34)))) (bn 35 (bl 34 (a_aload 0 35)) (bn 38 (bl 35 (a_invV zG0 zprot (true, false) zc_136 (zbd 136) (11, 0, 0) 12 1 38)) (bl 38 (a_aload 0 39))))))) (bn 63 (bn 49 (bn 44 (bn 41 (bl 39 (a_iload 4 41)) (bl 41 (a_puti zG0 zT0 zprot 12 8 0 44))) (bn 45 (bl 44 (a_aload 0 45)) (bn 48 (bl 45 (a_invV zG0 zprot (true, false) zc_142 (zbd 142) (11, 0, 0) 12 1 48)) (bl 48 (a_iload 2 49))))) (bn 56 (bn 52 (bl 49 (a_if 2 63 52)) (bn 53 (bl 52 (a_aload 0 53)) (bl 53 (a_getf zG0 zT0 12 62 56)))) (bn 57 (bl 56 (a_iload 3 57)) (bn 60 (bl 57 (a_icmp 2 63 60)) (bl 60 (a_goto 71)))))) (bn 74 (bn 67 (bn 65 (bl 63 (a_iload 4 65)) (bn 66 (bl 65 (a_istore 2 66)) (bl 66 (a_aload 0 67)))) (bn 70 (bl 67 (a_getf zG0 zT0 12 62 70)) (bn 71 (bl 70 (a_istore 3 71)) (bl 71 (a_iinc 4 1 74))))) (bn 81 (bn 77 (bl 74 (a_goto 20)) (bn 78 (bl 77 (a_iload 1 78)) (bl 78 (a_if 1 85 81)))) (bn 82 (bl 81 (a_iload 2 82)) (bn 85 (bl 82 (a_goto 86)) (bl 85 (a_iload 3 86)))))))
set_option maxRecDepth 100000 in
set_option maxHeartbeats 4000000 in
theorem zTo_203 {pre : zPre} {post : zPost} (H : zTieC pre post) {d : Nat × Nat × Nat} (hd : zLe (11, 0, 0) d) : aTr zG0 zT0 zInv (true, false) PZ zbd pre post d prog_14_method_90_code "CapitalCaseModel" zTr_203 := (xB_n (xB_n (xB_n (xB_n (xB_n (xB_l ⟨_, zs_iload_n em176_0, as_iload⟩) (xB_l ⟨_, zs_iconst (v := 0) em176_1 (by decide +kernel), as_const (by decide +kernel)⟩)) (xB_n (xB_l ⟨_, zs_iconst (v := 1) em176_2 (by decide +kernel), as_const (by decide +kernel)⟩) (xB_n (xB_l ⟨_, zs_invS em176_3 zl_164 wd_1629 wd_1630 ((congrFun xo_12 324).trans rfl) xm_148, ag_inv H zh_164 hd (by decide)⟩) (xB_l ⟨_, zs_ifne em176_6 (t := 11) (by decide), as_if⟩)))) (xB_n (xB_n (xB_l ⟨_, zs_iconst (v := (-1)) em176_9 (by decide +kernel), as_const (by decide +kernel)⟩) (xB_n (xB_l ⟨_, zs_bipush (v := (-2)) em176_11 (by decide +kernel), as_const (by decide +kernel)⟩) (xB_l ⟨_, zs_istore_n em176_13, as_istore⟩))) (xB_n (xB_l ⟨_, zs_bipush (v := (-2)) em176_14 (by decide +kernel), as_const (by decide +kernel)⟩) (xB_n (xB_l ⟨_, zs_istore_n em176_16, as_istore⟩) (xB_l ⟨_, zs_iconst (v := 0) em176_17 (by decide +kernel), as_const (by decide +kernel)⟩))))) (xB_n (xB_n (xB_n (xB_l ⟨_, zs_istore em176_18, as_istore⟩) (xB_l ⟨_, zs_iload em176_20, as_iload⟩)) (xB_n (xB_l ⟨_, zs_aload_n em176_22, as_aload⟩) (xB_n (xB_l ⟨_, zs_getf (T := TX12) (M := 70) (ci := 12) (j := 3) em176_23 rfl inX12 (by decide) wd_1303 ((congrFun xo_12 43).trans rfl), as_getf zTie⟩) (xB_l ⟨_, zs_aload_n em176_26, as_aload⟩)))) (xB_n (xB_n (xB_l ⟨_, zs_getf (T := TX12) (M := 70) (ci := 12) (j := 2) em176_27 rfl inX12 (by decide) wd_1299 ((congrFun xo_12 230).trans rfl), as_getf zTie⟩) (xB_n (xB_l ⟨_, zs_iald em176_30, ag_iald⟩) (xB_l ⟨_, zs_icmpge em176_31 (t := 77) (by decide), as_icmp⟩))) (xB_n (xB_l ⟨_, zs_aload_n em176_34, as_aload⟩) (xB_n (xB_l ⟨_, zs_invV (T := TX12) em176_35 zl_136 rfl wd_1635 wd_1637 wd_73 ((congrFun xo_12 411).trans rfl) xm_129, ag_invV H zh_136 hd (by decide)⟩) (xB_l ⟨_, zs_aload_n em176_38, as_aload⟩)))))) (xB_n (xB_n (xB_n (xB_n (xB_l ⟨_, zs_iload em176_39, as_iload⟩) (xB_l ⟨_, zs_puti zInj0 (T := TX12) (M := 70) (ty := tyX12) (ci := 12) (j := 8) (kd := 0) em176_41 rfl inX12 tyX12_ok nmX12 (by decide) wd_1335 (Or.inl ⟨rfl, rfl⟩) rfl ((congrFun xo_12 334).trans rfl), ag_puti0⟩)) (xB_n (xB_l ⟨_, zs_aload_n em176_44, as_aload⟩) (xB_n (xB_l ⟨_, zs_invV (T := TX12) em176_45 zl_142 rfl wd_1794 wd_1796 wd_99 ((congrFun xo_12 451).trans rfl) xm_135, ag_invV H zh_142 hd (by decide)⟩) (xB_l ⟨_, zs_iload_n em176_48, as_iload⟩)))) (xB_n (xB_n (xB_l ⟨_, zs_iflt em176_49 (t := 63) (by decide), as_if⟩) (xB_n (xB_l ⟨_, zs_aload_n em176_52, as_aload⟩) (xB_l ⟨_, zs_getf (T := TX12) (M := 70) (ci := 12) (j := 62) em176_53 rfl inX12 (by decide) wd_1343 ((congrFun xo_12 442).trans rfl), as_getf zTie⟩))) (xB_n (xB_l ⟨_, zs_iload_n em176_56, as_iload⟩) (xB_n (xB_l ⟨_, zs_icmplt em176_57 (t := 63) (by decide), as_icmp⟩) (xB_l ⟨_, zs_goto em176_60 (t := 71) (by decide), as_goto⟩))))) (xB_n (xB_n (xB_n (xB_l ⟨_, zs_iload em176_63, as_iload⟩) (xB_n (xB_l ⟨_, zs_istore_n em176_65, as_istore⟩) (xB_l ⟨_, zs_aload_n em176_66, as_aload⟩))) (xB_n (xB_l ⟨_, zs_getf (T := TX12) (M := 70) (ci := 12) (j := 62) em176_67 rfl inX12 (by decide) wd_1343 ((congrFun xo_12 442).trans rfl), as_getf zTie⟩) (xB_n (xB_l ⟨_, zs_istore_n em176_70, as_istore⟩) (xB_l ⟨_, zs_iinc (k := 1) em176_71 (by decide +kernel), as_iinc (by decide +kernel)⟩)))) (xB_n (xB_n (xB_l ⟨_, zs_goto em176_74 (t := 20) (by decide), as_goto⟩) (xB_n (xB_l ⟨_, zs_iload_n em176_77, as_iload⟩) (xB_l ⟨_, zs_ifne em176_78 (t := 85) (by decide), as_if⟩))) (xB_n (xB_l ⟨_, zs_iload_n em176_81, as_iload⟩) (xB_n (xB_l ⟨_, zs_goto em176_82 (t := 86) (by decide), as_goto⟩) (xB_l ⟨_, zs_iload_n em176_85, as_iload⟩)))))))
set_option maxRecDepth 100000 in
set_option maxHeartbeats 4000000 in
theorem zM_203 : zOKa 203 zc_203 := z_auto (cuts := [(20, ([(0, 0), (0, 1), (0, 1), ((-2), 4), ((-2147483648), 2147483647), (0, 5)], [], [some (.inr (.inl (0, 75))), some (.inl (1, 0)), some (.inl (3, 0)), some (.inl (4, 0)), some (.inl (5, 0))], [], [(22, 2, 0)], (0, 0)), [(0, 2), (0, 3), (0, 4)], 5, [0, 0, 0, 0, 0, (-1)])]) (rets := [(10, 1), (86, 1)]) (fuel := 1000) rfl rfl (by decide) (xrt_ok (xR_c (Or.inl ⟨rfl, em176_10, rfl⟩) (xR_c (Or.inl ⟨rfl, em176_86, rfl⟩) (xR_n)))) (fun _ _ H _ hd => zTo_203 H hd) (by decide +kernel)
theorem em177_0 : decode prog_14_method_21_code 0 = .ok (.aload_n 0, 1) := by decide +kernel
theorem em177_1 : decode prog_14_method_21_code 1 = .ok (.getfield 37, 3) := by decide +kernel
theorem em177_4 : decode prog_14_method_21_code 4 = .ok (.ireturn, 1) := by decide +kernel
/-! CapitalCaseModel.place:()I -/
noncomputable def zTr_204 : Nat → Option aF := bn 1 (bl 0 (a_aload 0 1)) (bl 1 (a_getf zG0 zT0 12 31 4))
set_option maxRecDepth 100000 in
set_option maxHeartbeats 4000000 in
theorem zTo_204 {pre : zPre} {post : zPost} (H : zTieC pre post) {d : Nat × Nat × Nat} (hd : zLe (0, 0, 0) d) : aTr zG0 zT0 zInv (false, false) PZ zbd pre post d prog_14_method_21_code "CapitalCaseModel" zTr_204 := (xB_n (xB_l ⟨_, zs_aload_n em177_0, as_aload⟩) (xB_l ⟨_, zs_getf (T := TX12) (M := 70) (ci := 12) (j := 31) em177_1 rfl inX12 (by decide) wd_1298 ((congrFun xo_12 37).trans rfl), as_getf zTie⟩))
set_option maxRecDepth 100000 in
set_option maxHeartbeats 4000000 in
theorem zM_204 : zOKa 204 zc_204 := z_auto (cuts := []) (rets := [(4, 1)]) (fuel := 1000) rfl rfl (by decide) (xrt_ok (xR_c (Or.inl ⟨rfl, em177_4, rfl⟩) (xR_n))) (fun _ _ H _ hd => zTo_204 H hd) (by decide +kernel)
theorem em178_0 : decode prog_14_method_4_code 0 = .ok (.bipush 24, 2) := by decide +kernel
theorem em178_2 : decode prog_14_method_4_code 2 = .ok (.istore_n 2, 1) := by decide +kernel
theorem em178_3 : decode prog_14_method_4_code 3 = .ok (.iload_n 2, 1) := by decide +kernel
theorem em178_4 : decode prog_14_method_4_code 4 = .ok (.ifCond .lt 32, 3) := by decide +kernel
theorem em178_7 : decode prog_14_method_4_code 7 = .ok (.aload_n 0, 1) := by decide +kernel
theorem em178_8 : decode prog_14_method_4_code 8 = .ok (.getfield 13, 3) := by decide +kernel
theorem em178_11 : decode prog_14_method_4_code 11 = .ok (.aload_n 0, 1) := by decide +kernel
theorem em178_12 : decode prog_14_method_4_code 12 = .ok (.getfield 163, 3) := by decide +kernel
theorem em178_15 : decode prog_14_method_4_code 15 = .ok (.iload_n 1, 1) := by decide +kernel
theorem em178_16 : decode prog_14_method_4_code 16 = .ok (.iload_n 2, 1) := by decide +kernel
theorem em178_17 : decode prog_14_method_4_code 17 = .ok (.ishr, 1) := by decide +kernel
theorem em178_18 : decode prog_14_method_4_code 18 = .ok (.i2b, 1) := by decide +kernel
theorem em178_19 : decode prog_14_method_4_code 19 = .ok (.bastore, 1) := by decide +kernel
theorem em178_20 : decode prog_14_method_4_code 20 = .ok (.aload_n 0, 1) := by decide +kernel
theorem em178_21 : decode prog_14_method_4_code 21 = .ok (.dup, 1) := by decide +kernel
theorem em178_22 : decode prog_14_method_4_code 22 = .ok (.getfield 163, 3) := by decide +kernel
theorem em178_25 : decode prog_14_method_4_code 25 = .ok (.iconst 1, 1) := by decide +kernel
theorem em178_26 : decode prog_14_method_4_code 26 = .ok (.iadd, 1) := by decide +kernel
theorem em178_27 : decode prog_14_method_4_code 27 = .ok (.putfield 163, 3) := by decide +kernel
theorem em178_30 : decode prog_14_method_4_code 30 = .ok (.iinc 2 (-8), 3) := by decide +kernel
theorem em178_33 : decode prog_14_method_4_code 33 = .ok (.goto (-30), 3) := by decide +kernel
theorem em178_36 : decode prog_14_method_4_code 36 = .ok (.return_, 1) := by decide +kernel
/-! CapitalCaseModel.put:(I)V -/
noncomputable def zTr_205 : Nat → Option aF := bn 17 (bn 8 (bn 3 (bn 2 (bl 0 (a_const 24 2)) (bl 2 (a_istore 2 3))) (bn 4 (bl 3 (a_iload 2 4)) (bn 7 (bl 4 (a_if 2 36 7)) (bl 7 (a_aload 0 8))))) (bn 12 (bn 11 (bl 8 (a_getf zG0 zT0 12 13 11)) (bl 11 (a_aload 0 12))) (bn 15 (bl 12 (a_getf zG0 zT0 12 12 15)) (bn 16 (bl 15 (a_iload 1 16)) (bl 16 (a_iload 2 17)))))) (bn 22 (bn 19 (bn 18 (bl 17 (a_bin fany 18)) (bl 18 (a_un fi2b 19))) (bn 20 (bl 19 (a_ast zG0 zT0 ts12 20)) (bn 21 (bl 20 (a_aload 0 21)) (bl 21 (a_dup 22))))) (bn 27 (bn 25 (bl 22 (a_getf zG0 zT0 12 12 25)) (bn 26 (bl 25 (a_const 1 26)) (bl 26 (a_bin fadd 27)))) (bn 30 (bl 27 (a_puti zG0 zT0 zprot 12 12 0 30)) (bn 33 (bl 30 (a_iinc 2 (-8) 33)) (bl 33 (a_goto 3))))))
set_option maxRecDepth 100000 in
set_option maxHeartbeats 4000000 in
theorem zTo_205 {pre : zPre} {post : zPost} (H : zTieC pre post) {d : Nat × Nat × Nat} (hd : zLe (0, 0, 0) d) : aTr zG0 zT0 zInv (false, false) PZ zbd pre post d prog_14_method_4_code "CapitalCaseModel" zTr_205 := (xB_n (xB_n (xB_n (xB_n (xB_l ⟨_, zs_bipush (v := 24) em178_0 (by decide +kernel), as_const (by decide +kernel)⟩) (xB_l ⟨_, zs_istore_n em178_2, as_istore⟩)) (xB_n (xB_l ⟨_, zs_iload_n em178_3, as_iload⟩) (xB_n (xB_l ⟨_, zs_iflt em178_4 (t := 36) (by decide), as_if⟩) (xB_l ⟨_, zs_aload_n em178_7, as_aload⟩)))) (xB_n (xB_n (xB_l ⟨_, zs_getf (T := TX12) (M := 70) (ci := 12) (j := 13) em178_8 rfl inX12 (by decide) wd_1282 ((congrFun xo_12 13).trans rfl), as_getf zTie⟩) (xB_l ⟨_, zs_aload_n em178_11, as_aload⟩)) (xB_n (xB_l ⟨_, zs_getf (T := TX12) (M := 70) (ci := 12) (j := 12) em178_12 rfl inX12 (by decide) wd_1283 ((congrFun xo_12 163).trans rfl), as_getf zTie⟩) (xB_n (xB_l ⟨_, zs_iload_n em178_15, as_iload⟩) (xB_l ⟨_, zs_iload_n em178_16, as_iload⟩))))) (xB_n (xB_n (xB_n (xB_l ⟨_, zs_ishr em178_17, as_bin fany_ok⟩) (xB_l ⟨_, zs_i2b em178_18, as_un fi2b_ok⟩)) (xB_n (xB_l ⟨_, zs_bast zInj0 em178_19, as_bast zTie⟩) (xB_n (xB_l ⟨_, zs_aload_n em178_20, as_aload⟩) (xB_l ⟨_, zs_dup em178_21, as_dup⟩)))) (xB_n (xB_n (xB_l ⟨_, zs_getf (T := TX12) (M := 70) (ci := 12) (j := 12) em178_22 rfl inX12 (by decide) wd_1283 ((congrFun xo_12 163).trans rfl), as_getf zTie⟩) (xB_n (xB_l ⟨_, zs_iconst (v := 1) em178_25 (by decide +kernel), as_const (by decide +kernel)⟩) (xB_l ⟨_, zs_iadd em178_26, as_bin fadd_ok⟩))) (xB_n (xB_l ⟨_, zs_puti zInj0 (T := TX12) (M := 70) (ty := tyX12) (ci := 12) (j := 12) (kd := 0) em178_27 rfl inX12 tyX12_ok nmX12 (by decide) wd_1283 (Or.inl ⟨rfl, rfl⟩) rfl ((congrFun xo_12 163).trans rfl), ag_puti0⟩) (xB_n (xB_l ⟨_, zs_iinc (k := (-8)) em178_30 (by decide +kernel), as_iinc (by decide +kernel)⟩) (xB_l ⟨_, zs_goto em178_33 (t := 3) (by decide), as_goto⟩))))))
set_option maxRecDepth 100000 in
set_option maxHeartbeats 4000000 in
theorem zM_205 : zOKa 205 zc_205 := z_auto (cuts := []) (rets := [(36, 3)]) (fuel := 1000) rfl rfl (by decide) (xrt_ok (xR_c (Or.inr (Or.inr (Or.inl ⟨rfl, em178_36, rfl⟩))) (xR_n))) (fun _ _ H _ hd => zTo_205 H hd) (by decide +kernel)
theorem em179_0 : decode prog_14_method_60_code 0 = .ok (.aload_n 0, 1) := by decide +kernel
theorem em179_1 : decode prog_14_method_60_code 1 = .ok (.iload_n 1, 1) := by decide +kernel
theorem em179_2 : decode prog_14_method_60_code 2 = .ok (.iload_n 2, 1) := by decide +kernel
theorem em179_3 : decode prog_14_method_60_code 3 = .ok (.invokevirtual 353, 3) := by decide +kernel
theorem em179_6 : decode prog_14_method_60_code 6 = .ok (.aload_n 0, 1) := by decide +kernel
theorem em179_7 : decode prog_14_method_60_code 7 = .ok (.iload_n 3, 1) := by decide +kernel
theorem em179_8 : decode prog_14_method_60_code 8 = .ok (.invokevirtual 356, 3) := by decide +kernel
theorem em179_11 : decode prog_14_method_60_code 11 = .ok (.aload_n 0, 1) := by decide +kernel
theorem em179_12 : decode prog_14_method_60_code 12 = .ok (.iconst 1, 1) := by decide +kernel
theorem em179_13 : decode prog_14_method_60_code 13 = .ok (.iconst 0, 1) := by decide +kernel
theorem em179_14 : decode prog_14_method_60_code 14 = .ok (.invokevirtual 359, 3) := by decide +kernel
theorem em179_17 : decode prog_14_method_60_code 17 = .ok (.ireturn, 1) := by decide +kernel
/-! CapitalCaseModel.rankOf:(III)I -/
noncomputable def zTr_206 : Nat → Option aF := bn 7 (bn 2 (bn 1 (bl 0 (a_aload 0 1)) (bl 1 (a_iload 1 2))) (bn 3 (bl 2 (a_iload 2 3)) (bn 6 (bl 3 (a_invV zG0 zprot (true, false) zc_191 (zbd 191) (6, 0, 0) 12 3 6)) (bl 6 (a_aload 0 7))))) (bn 12 (bn 8 (bl 7 (a_iload 3 8)) (bn 11 (bl 8 (a_invV zG0 zprot (true, false) zc_192 (zbd 192) (6, 0, 0) 12 2 11)) (bl 11 (a_aload 0 12)))) (bn 13 (bl 12 (a_const 1 13)) (bn 14 (bl 13 (a_const 0 14)) (bl 14 (a_invV zG0 zprot (true, false) zc_185 (zbd 185) (6, 0, 0) 12 3 17)))))
set_option maxRecDepth 100000 in
set_option maxHeartbeats 4000000 in
theorem zTo_206 {pre : zPre} {post : zPost} (H : zTieC pre post) {d : Nat × Nat × Nat} (hd : zLe (6, 0, 0) d) : aTr zG0 zT0 zInv (true, false) PZ zbd pre post d prog_14_method_60_code "CapitalCaseModel" zTr_206 := (xB_n (xB_n (xB_n (xB_l ⟨_, zs_aload_n em179_0, as_aload⟩) (xB_l ⟨_, zs_iload_n em179_1, as_iload⟩)) (xB_n (xB_l ⟨_, zs_iload_n em179_2, as_iload⟩) (xB_n (xB_l ⟨_, zs_invV (T := TX12) em179_3 zl_191 rfl wd_1655 wd_1657 wd_78 ((congrFun xo_12 353).trans rfl) xm_165, ag_invV H zh_191 hd (by decide)⟩) (xB_l ⟨_, zs_aload_n em179_6, as_aload⟩)))) (xB_n (xB_n (xB_l ⟨_, zs_iload_n em179_7, as_iload⟩) (xB_n (xB_l ⟨_, zs_invV (T := TX12) em179_8 zl_192 rfl wd_1686 wd_1688 wd_84 ((congrFun xo_12 356).trans rfl) xm_166, ag_invV H zh_192 hd (by decide)⟩) (xB_l ⟨_, zs_aload_n em179_11, as_aload⟩))) (xB_n (xB_l ⟨_, zs_iconst (v := 1) em179_12 (by decide +kernel), as_const (by decide +kernel)⟩) (xB_n (xB_l ⟨_, zs_iconst (v := 0) em179_13 (by decide +kernel), as_const (by decide +kernel)⟩) (xB_l ⟨_, zs_invV (T := TX12) em179_14 zl_185 rfl wd_1663 wd_1665 wd_80 ((congrFun xo_12 359).trans rfl) xm_159, ag_invV H zh_185 hd (by decide)⟩)))))
set_option maxRecDepth 100000 in
set_option maxHeartbeats 4000000 in
theorem zM_206 : zOKa 206 zc_206 := z_auto (cuts := []) (rets := [(17, 1)]) (fuel := 1000) rfl rfl (by decide) (xrt_ok (xR_c (Or.inl ⟨rfl, em179_17, rfl⟩) (xR_n))) (fun _ _ H _ hd => zTo_206 H hd) (by decide +kernel)
theorem em183_0 : decode prog_14_method_22_code 0 = .ok (.iload_n 1, 1) := by decide +kernel
theorem em183_1 : decode prog_14_method_22_code 1 = .ok (.iload_n 2, 1) := by decide +kernel
theorem em183_2 : decode prog_14_method_22_code 2 = .ok (.if_icmp .ne 8, 3) := by decide +kernel
theorem em183_5 : decode prog_14_method_22_code 5 = .ok (.aload_n 0, 1) := by decide +kernel
theorem em183_6 : decode prog_14_method_22_code 6 = .ok (.iconst 2, 1) := by decide +kernel
theorem em183_7 : decode prog_14_method_22_code 7 = .ok (.invokevirtual 215, 3) := by decide +kernel
theorem em183_10 : decode prog_14_method_22_code 10 = .ok (.aload_n 0, 1) := by decide +kernel
theorem em183_11 : decode prog_14_method_22_code 11 = .ok (.getfield 200, 3) := by decide +kernel
theorem em183_14 : decode prog_14_method_22_code 14 = .ok (.ifCond .ne 7, 3) := by decide +kernel
theorem em183_17 : decode prog_14_method_22_code 17 = .ok (.aload_n 0, 1) := by decide +kernel
theorem em183_18 : decode prog_14_method_22_code 18 = .ok (.invokevirtual 221, 3) := by decide +kernel
theorem em183_21 : decode prog_14_method_22_code 21 = .ok (.return_, 1) := by decide +kernel
/-! CapitalCaseModel.roomFor:(II)V -/
noncomputable def zTr_210 : Nat → Option aF := bn 7 (bn 2 (bn 1 (bl 0 (a_iload 1 1)) (bl 1 (a_iload 2 2))) (bn 5 (bl 2 (a_icmp 1 10 5)) (bn 6 (bl 5 (a_aload 0 6)) (bl 6 (a_const 2 7))))) (bn 14 (bn 10 (bl 7 (a_invV zG0 zprot (false, false) zc_140 (zbd 140) (2, 0, 0) 12 2 10)) (bn 11 (bl 10 (a_aload 0 11)) (bl 11 (a_getf zG0 zT0 12 27 14)))) (bn 17 (bl 14 (a_if 1 21 17)) (bn 18 (bl 17 (a_aload 0 18)) (bl 18 (a_invV zG0 zprot (false, false) zc_151 (zbd 151) (2, 0, 0) 12 1 21)))))
set_option maxRecDepth 100000 in
set_option maxHeartbeats 4000000 in
theorem zTo_210 {pre : zPre} {post : zPost} (H : zTieC pre post) {d : Nat × Nat × Nat} (hd : zLe (2, 0, 0) d) : aTr zG0 zT0 zInv (false, false) PZ zbd pre post d prog_14_method_22_code "CapitalCaseModel" zTr_210 := (xB_n (xB_n (xB_n (xB_l ⟨_, zs_iload_n em183_0, as_iload⟩) (xB_l ⟨_, zs_iload_n em183_1, as_iload⟩)) (xB_n (xB_l ⟨_, zs_icmpne em183_2 (t := 10) (by decide), as_icmp⟩) (xB_n (xB_l ⟨_, zs_aload_n em183_5, as_aload⟩) (xB_l ⟨_, zs_iconst (v := 2) em183_6 (by decide +kernel), as_const (by decide +kernel)⟩)))) (xB_n (xB_n (xB_l ⟨_, zs_invV (T := TX12) em183_7 zl_140 rfl wd_1543 wd_1545 wd_55 ((congrFun xo_12 215).trans rfl) xm_133, ag_invV H zh_140 hd (by decide)⟩) (xB_n (xB_l ⟨_, zs_aload_n em183_10, as_aload⟩) (xB_l ⟨_, zs_getf (T := TX12) (M := 70) (ci := 12) (j := 27) em183_11 rfl inX12 (by decide) wd_1294 ((congrFun xo_12 200).trans rfl), as_getf zTie⟩))) (xB_n (xB_l ⟨_, zs_ifne em183_14 (t := 21) (by decide), as_if⟩) (xB_n (xB_l ⟨_, zs_aload_n em183_17, as_aload⟩) (xB_l ⟨_, zs_invV (T := TX12) em183_18 zl_151 rfl wd_1547 wd_1549 wd_56 ((congrFun xo_12 221).trans rfl) xm_144, ag_invV H zh_151 hd (by decide)⟩)))))
set_option maxRecDepth 100000 in
set_option maxHeartbeats 4000000 in
theorem zM_210 : zOKa 210 zc_210 := z_auto (cuts := []) (rets := [(21, 3)]) (fuel := 1000) rfl rfl (by decide) (xrt_ok (xR_c (Or.inr (Or.inr (Or.inl ⟨rfl, em183_21, rfl⟩))) (xR_n))) (fun _ _ H _ hd => zTo_210 H hd) (by decide +kernel)
theorem em184_0 : decode prog_14_method_77_code 0 = .ok (.aload_n 0, 1) := by decide +kernel
theorem em184_1 : decode prog_14_method_77_code 1 = .ok (.iload_n 1, 1) := by decide +kernel
theorem em184_2 : decode prog_14_method_77_code 2 = .ok (.invokevirtual 417, 3) := by decide +kernel
theorem em184_5 : decode prog_14_method_77_code 5 = .ok (.ifCond .ne 5, 3) := by decide +kernel
theorem em184_8 : decode prog_14_method_77_code 8 = .ok (.iconst 0, 1) := by decide +kernel
theorem em184_9 : decode prog_14_method_77_code 9 = .ok (.ireturn, 1) := by decide +kernel
theorem em184_10 : decode prog_14_method_77_code 10 = .ok (.aload_n 0, 1) := by decide +kernel
theorem em184_11 : decode prog_14_method_77_code 11 = .ok (.invokevirtual 411, 3) := by decide +kernel
theorem em184_14 : decode prog_14_method_77_code 14 = .ok (.aload_n 0, 1) := by decide +kernel
theorem em184_15 : decode prog_14_method_77_code 15 = .ok (.iload_n 1, 1) := by decide +kernel
theorem em184_16 : decode prog_14_method_77_code 16 = .ok (.invokevirtual 383, 3) := by decide +kernel
theorem em184_19 : decode prog_14_method_77_code 19 = .ok (.ifCond .eq 11, 3) := by decide +kernel
theorem em184_22 : decode prog_14_method_77_code 22 = .ok (.aload_n 0, 1) := by decide +kernel
theorem em184_23 : decode prog_14_method_77_code 23 = .ok (.iload_n 1, 1) := by decide +kernel
theorem em184_24 : decode prog_14_method_77_code 24 = .ok (.invokevirtual 421, 3) := by decide +kernel
theorem em184_27 : decode prog_14_method_77_code 27 = .ok (.ifCond .ne 5, 3) := by decide +kernel
theorem em184_30 : decode prog_14_method_77_code 30 = .ok (.iconst 0, 1) := by decide +kernel
theorem em184_31 : decode prog_14_method_77_code 31 = .ok (.ireturn, 1) := by decide +kernel
theorem em184_32 : decode prog_14_method_77_code 32 = .ok (.aload_n 0, 1) := by decide +kernel
theorem em184_33 : decode prog_14_method_77_code 33 = .ok (.invokevirtual 424, 3) := by decide +kernel
theorem em184_36 : decode prog_14_method_77_code 36 = .ok (.iconst 1, 1) := by decide +kernel
theorem em184_37 : decode prog_14_method_77_code 37 = .ok (.ireturn, 1) := by decide +kernel
/-! CapitalCaseModel.set:(I)Z -/
noncomputable def zTr_211 : Nat → Option aF := bn 16 (bn 8 (bn 2 (bn 1 (bl 0 (a_aload 0 1)) (bl 1 (a_iload 1 2))) (bn 5 (bl 2 (a_invV zG0 zprot (true, false) zc_181 (zbd 181) (9, 0, 0) 12 2 5)) (bl 5 (a_if 1 10 8)))) (bn 11 (bn 10 (bl 8 (a_const 0 9)) (bl 10 (a_aload 0 11))) (bn 14 (bl 11 (a_invV zG0 zprot (true, false) zc_136 (zbd 136) (9, 0, 0) 12 1 14)) (bn 15 (bl 14 (a_aload 0 15)) (bl 15 (a_iload 1 16)))))) (bn 27 (bn 22 (bn 19 (bl 16 (a_invV zG0 zprot (true, false) zc_179 (zbd 179) (9, 0, 0) 12 2 19)) (bl 19 (a_if 0 30 22))) (bn 23 (bl 22 (a_aload 0 23)) (bn 24 (bl 23 (a_iload 1 24)) (bl 24 (a_invV zG0 zprot (true, false) zc_212 (zbd 212) (9, 0, 0) 12 2 27))))) (bn 32 (bn 30 (bl 27 (a_if 1 32 30)) (bl 30 (a_const 0 31))) (bn 33 (bl 32 (a_aload 0 33)) (bn 36 (bl 33 (a_invV zG0 zprot (true, false) zc_208 (zbd 208) (9, 0, 0) 12 1 36)) (bl 36 (a_const 1 37))))))
set_option maxRecDepth 100000 in
set_option maxHeartbeats 4000000 in
theorem zTo_211 {pre : zPre} {post : zPost} (H : zTieC pre post) {d : Nat × Nat × Nat} (hd : zLe (9, 0, 0) d) : aTr zG0 zT0 zInv (true, false) PZ zbd pre post d prog_14_method_77_code "CapitalCaseModel" zTr_211 := (xB_n (xB_n (xB_n (xB_n (xB_l ⟨_, zs_aload_n em184_0, as_aload⟩) (xB_l ⟨_, zs_iload_n em184_1, as_iload⟩)) (xB_n (xB_l ⟨_, zs_invV (T := TX12) em184_2 zl_181 rfl wd_1678 wd_1680 wd_82 ((congrFun xo_12 417).trans rfl) xm_155, ag_invV H zh_181 hd (by decide)⟩) (xB_l ⟨_, zs_ifne em184_5 (t := 10) (by decide), as_if⟩))) (xB_n (xB_n (xB_l ⟨_, zs_iconst (v := 0) em184_8 (by decide +kernel), as_const (by decide +kernel)⟩) (xB_l ⟨_, zs_aload_n em184_10, as_aload⟩)) (xB_n (xB_l ⟨_, zs_invV (T := TX12) em184_11 zl_136 rfl wd_1635 wd_1637 wd_73 ((congrFun xo_12 411).trans rfl) xm_129, ag_invV H zh_136 hd (by decide)⟩) (xB_n (xB_l ⟨_, zs_aload_n em184_14, as_aload⟩) (xB_l ⟨_, zs_iload_n em184_15, as_iload⟩))))) (xB_n (xB_n (xB_n (xB_l ⟨_, zs_invV (T := TX12) em184_16 zl_179 rfl wd_1711 wd_1713 wd_87 ((congrFun xo_12 383).trans rfl) xm_153, ag_invV H zh_179 hd (by decide)⟩) (xB_l ⟨_, zs_ifeq em184_19 (t := 30) (by decide), as_if⟩)) (xB_n (xB_l ⟨_, zs_aload_n em184_22, as_aload⟩) (xB_n (xB_l ⟨_, zs_iload_n em184_23, as_iload⟩) (xB_l ⟨_, zs_invV (T := TX12) em184_24 zl_212 rfl wd_1715 wd_1717 wd_88 ((congrFun xo_12 421).trans rfl) xm_185, ag_invV H zh_212 hd (by decide)⟩)))) (xB_n (xB_n (xB_l ⟨_, zs_ifne em184_27 (t := 32) (by decide), as_if⟩) (xB_l ⟨_, zs_iconst (v := 0) em184_30 (by decide +kernel), as_const (by decide +kernel)⟩)) (xB_n (xB_l ⟨_, zs_aload_n em184_32, as_aload⟩) (xB_n (xB_l ⟨_, zs_invV (T := TX12) em184_33 zl_208 rfl wd_1727 wd_1729 wd_91 ((congrFun xo_12 424).trans rfl) xm_181, ag_invV H zh_208 hd (by decide)⟩) (xB_l ⟨_, zs_iconst (v := 1) em184_36 (by decide +kernel), as_const (by decide +kernel)⟩))))))
set_option maxRecDepth 100000 in
set_option maxHeartbeats 4000000 in
theorem zM_211 : zOKa 211 zc_211 := z_auto (cuts := []) (rets := [(9, 2), (31, 2), (37, 2)]) (fuel := 1000) rfl rfl (by decide) (xrt_ok (xR_c (Or.inr (Or.inl ⟨rfl, em184_9, rfl⟩)) (xR_c (Or.inr (Or.inl ⟨rfl, em184_31, rfl⟩)) (xR_c (Or.inr (Or.inl ⟨rfl, em184_37, rfl⟩)) (xR_n))))) (fun _ _ H _ hd => zTo_211 H hd) (by decide +kernel)
theorem em185_0 : decode prog_14_method_65_code 0 = .ok (.iconst 0, 1) := by decide +kernel
theorem em185_1 : decode prog_14_method_65_code 1 = .ok (.istore_n 2, 1) := by decide +kernel
theorem em185_2 : decode prog_14_method_65_code 2 = .ok (.iload_n 2, 1) := by decide +kernel
theorem em185_3 : decode prog_14_method_65_code 3 = .ok (.bipush 8, 2) := by decide +kernel
theorem em185_5 : decode prog_14_method_65_code 5 = .ok (.if_icmp .ge 25, 3) := by decide +kernel
theorem em185_8 : decode prog_14_method_65_code 8 = .ok (.aload_n 0, 1) := by decide +kernel
theorem em185_9 : decode prog_14_method_65_code 9 = .ok (.getfield 116, 3) := by decide +kernel
theorem em185_12 : decode prog_14_method_65_code 12 = .ok (.sipush 330, 3) := by decide +kernel
theorem em185_15 : decode prog_14_method_65_code 15 = .ok (.bipush 8, 2) := by decide +kernel
theorem em185_17 : decode prog_14_method_65_code 17 = .ok (.iload_n 1, 1) := by decide +kernel
theorem em185_18 : decode prog_14_method_65_code 18 = .ok (.imul, 1) := by decide +kernel
theorem em185_19 : decode prog_14_method_65_code 19 = .ok (.iadd, 1) := by decide +kernel
theorem em185_20 : decode prog_14_method_65_code 20 = .ok (.iload_n 2, 1) := by decide +kernel
theorem em185_21 : decode prog_14_method_65_code 21 = .ok (.iadd, 1) := by decide +kernel
theorem em185_22 : decode prog_14_method_65_code 22 = .ok (.iconst (-1), 1) := by decide +kernel
theorem em185_23 : decode prog_14_method_65_code 23 = .ok (.iastore, 1) := by decide +kernel
theorem em185_24 : decode prog_14_method_65_code 24 = .ok (.iinc 2 1, 3) := by decide +kernel
theorem em185_27 : decode prog_14_method_65_code 27 = .ok (.goto (-25), 3) := by decide +kernel
theorem em185_30 : decode prog_14_method_65_code 30 = .ok (.iconst 0, 1) := by decide +kernel
theorem em185_31 : decode prog_14_method_65_code 31 = .ok (.istore_n 2, 1) := by decide +kernel
theorem em185_32 : decode prog_14_method_65_code 32 = .ok (.iload_n 2, 1) := by decide +kernel
theorem em185_33 : decode prog_14_method_65_code 33 = .ok (.aload_n 0, 1) := by decide +kernel
theorem em185_34 : decode prog_14_method_65_code 34 = .ok (.getfield 52, 3) := by decide +kernel
theorem em185_37 : decode prog_14_method_65_code 37 = .ok (.bipush 7, 2) := by decide +kernel
theorem em185_39 : decode prog_14_method_65_code 39 = .ok (.aload_n 0, 1) := by decide +kernel
theorem em185_40 : decode prog_14_method_65_code 40 = .ok (.getfield 230, 3) := by decide +kernel
theorem em185_43 : decode prog_14_method_65_code 43 = .ok (.imul, 1) := by decide +kernel
theorem em185_44 : decode prog_14_method_65_code 44 = .ok (.iload_n 1, 1) := by decide +kernel
theorem em185_45 : decode prog_14_method_65_code 45 = .ok (.iadd, 1) := by decide +kernel
theorem em185_46 : decode prog_14_method_65_code 46 = .ok (.iaload, 1) := by decide +kernel
theorem em185_47 : decode prog_14_method_65_code 47 = .ok (.if_icmp .ge 85, 3) := by decide +kernel
theorem em185_50 : decode prog_14_method_65_code 50 = .ok (.aload_n 0, 1) := by decide +kernel
theorem em185_51 : decode prog_14_method_65_code 51 = .ok (.getfield 55, 3) := by decide +kernel
theorem em185_54 : decode prog_14_method_65_code 54 = .ok (.bipush 8, 2) := by decide +kernel
theorem em185_56 : decode prog_14_method_65_code 56 = .ok (.bipush 7, 2) := by decide +kernel
theorem em185_58 : decode prog_14_method_65_code 58 = .ok (.aload_n 0, 1) := by decide +kernel
theorem em185_59 : decode prog_14_method_65_code 59 = .ok (.getfield 230, 3) := by decide +kernel
theorem em185_62 : decode prog_14_method_65_code 62 = .ok (.imul, 1) := by decide +kernel
theorem em185_63 : decode prog_14_method_65_code 63 = .ok (.iload_n 1, 1) := by decide +kernel
theorem em185_64 : decode prog_14_method_65_code 64 = .ok (.iadd, 1) := by decide +kernel
theorem em185_65 : decode prog_14_method_65_code 65 = .ok (.imul, 1) := by decide +kernel
theorem em185_66 : decode prog_14_method_65_code 66 = .ok (.iload_n 2, 1) := by decide +kernel
theorem em185_67 : decode prog_14_method_65_code 67 = .ok (.iadd, 1) := by decide +kernel
theorem em185_68 : decode prog_14_method_65_code 68 = .ok (.iaload, 1) := by decide +kernel
theorem em185_69 : decode prog_14_method_65_code 69 = .ok (.istore_n 3, 1) := by decide +kernel
theorem em185_70 : decode prog_14_method_65_code 70 = .ok (.aload_n 0, 1) := by decide +kernel
theorem em185_71 : decode prog_14_method_65_code 71 = .ok (.iload_n 3, 1) := by decide +kernel
theorem em185_72 : decode prog_14_method_65_code 72 = .ok (.iload_n 1, 1) := by decide +kernel
theorem em185_73 : decode prog_14_method_65_code 73 = .ok (.invokevirtual 377, 3) := by decide +kernel
theorem em185_76 : decode prog_14_method_65_code 76 = .ok (.istore 4, 2) := by decide +kernel
theorem em185_78 : decode prog_14_method_65_code 78 = .ok (.iload 4, 2) := by decide +kernel
theorem em185_80 : decode prog_14_method_65_code 80 = .ok (.ifCond .ge 10, 3) := by decide +kernel
theorem em185_83 : decode prog_14_method_65_code 83 = .ok (.aload_n 0, 1) := by decide +kernel
theorem em185_84 : decode prog_14_method_65_code 84 = .ok (.iload_n 1, 1) := by decide +kernel
theorem em185_85 : decode prog_14_method_65_code 85 = .ok (.invokevirtual 380, 3) := by decide +kernel
theorem em185_88 : decode prog_14_method_65_code 88 = .ok (.iconst 0, 1) := by decide +kernel
theorem em185_89 : decode prog_14_method_65_code 89 = .ok (.ireturn, 1) := by decide +kernel
theorem em185_90 : decode prog_14_method_65_code 90 = .ok (.aload_n 0, 1) := by decide +kernel
theorem em185_91 : decode prog_14_method_65_code 91 = .ok (.getfield 116, 3) := by decide +kernel
theorem em185_94 : decode prog_14_method_65_code 94 = .ok (.sipush 330, 3) := by decide +kernel
theorem em185_97 : decode prog_14_method_65_code 97 = .ok (.bipush 8, 2) := by decide +kernel
theorem em185_99 : decode prog_14_method_65_code 99 = .ok (.iload_n 1, 1) := by decide +kernel
theorem em185_100 : decode prog_14_method_65_code 100 = .ok (.imul, 1) := by decide +kernel
theorem em185_101 : decode prog_14_method_65_code 101 = .ok (.iadd, 1) := by decide +kernel
theorem em185_102 : decode prog_14_method_65_code 102 = .ok (.iload_n 2, 1) := by decide +kernel
theorem em185_103 : decode prog_14_method_65_code 103 = .ok (.iadd, 1) := by decide +kernel
theorem em185_104 : decode prog_14_method_65_code 104 = .ok (.iload 4, 2) := by decide +kernel
theorem em185_106 : decode prog_14_method_65_code 106 = .ok (.iastore, 1) := by decide +kernel
theorem em185_107 : decode prog_14_method_65_code 107 = .ok (.aload_n 0, 1) := by decide +kernel
theorem em185_108 : decode prog_14_method_65_code 108 = .ok (.getfield 116, 3) := by decide +kernel
theorem em185_111 : decode prog_14_method_65_code 111 = .ok (.bipush 40, 2) := by decide +kernel
theorem em185_113 : decode prog_14_method_65_code 113 = .ok (.bipush 8, 2) := by decide +kernel
theorem em185_115 : decode prog_14_method_65_code 115 = .ok (.iload 4, 2) := by decide +kernel
theorem em185_117 : decode prog_14_method_65_code 117 = .ok (.imul, 1) := by decide +kernel
theorem em185_118 : decode prog_14_method_65_code 118 = .ok (.iadd, 1) := by decide +kernel
theorem em185_119 : decode prog_14_method_65_code 119 = .ok (.iload_n 3, 1) := by decide +kernel
theorem em185_120 : decode prog_14_method_65_code 120 = .ok (.iadd, 1) := by decide +kernel
theorem em185_121 : decode prog_14_method_65_code 121 = .ok (.dup2, 1) := by decide +kernel
theorem em185_122 : decode prog_14_method_65_code 122 = .ok (.iaload, 1) := by decide +kernel
theorem em185_123 : decode prog_14_method_65_code 123 = .ok (.iconst 1, 1) := by decide +kernel
theorem em185_124 : decode prog_14_method_65_code 124 = .ok (.iadd, 1) := by decide +kernel
theorem em185_125 : decode prog_14_method_65_code 125 = .ok (.iastore, 1) := by decide +kernel
theorem em185_126 : decode prog_14_method_65_code 126 = .ok (.iinc 2 1, 3) := by decide +kernel
theorem em185_129 : decode prog_14_method_65_code 129 = .ok (.goto (-97), 3) := by decide +kernel
theorem em185_132 : decode prog_14_method_65_code 132 = .ok (.aload_n 0, 1) := by decide +kernel
theorem em185_133 : decode prog_14_method_65_code 133 = .ok (.getfield 116, 3) := by decide +kernel
theorem em185_136 : decode prog_14_method_65_code 136 = .ok (.sipush 320, 3) := by decide +kernel
theorem em185_139 : decode prog_14_method_65_code 139 = .ok (.iload_n 1, 1) := by decide +kernel
theorem em185_140 : decode prog_14_method_65_code 140 = .ok (.iadd, 1) := by decide +kernel
theorem em185_141 : decode prog_14_method_65_code 141 = .ok (.iconst 1, 1) := by decide +kernel
theorem em185_142 : decode prog_14_method_65_code 142 = .ok (.iastore, 1) := by decide +kernel
theorem em185_143 : decode prog_14_method_65_code 143 = .ok (.iconst 1, 1) := by decide +kernel
theorem em185_144 : decode prog_14_method_65_code 144 = .ok (.ireturn, 1) := by decide +kernel
/-! CapitalCaseModel.sets:(I)Z -/
noncomputable def zTr_212 : Nat → Option aF := bn 70 (bn 34 (bn 19 (bn 8 (bn 2 (bn 1 (bl 0 (a_const 0 1)) (bl 1 (a_istore 2 2))) (bn 3 (bl 2 (a_iload 2 3)) (bn 5 (bl 3 (a_const 8 5)) (bl 5 (a_icmp 3 30 8))))) (bn 15 (bn 9 (bl 8 (a_aload 0 9)) (bn 12 (bl 9 (a_getf zG0 zT0 12 0 12)) (bl 12 (a_const 330 15)))) (bn 17 (bl 15 (a_const 8 17)) (bn 18 (bl 17 (a_iload 1 18)) (bl 18 (a_bin fmul 19)))))) (bn 24 (bn 21 (bn 20 (bl 19 (a_bin fadd 20)) (bl 20 (a_iload 2 21))) (bn 22 (bl 21 (a_bin fadd 22)) (bn 23 (bl 22 (a_const (-1) 23)) (bl 23 (a_ast zG0 zT0 ts0 24))))) (bn 31 (bn 27 (bl 24 (a_iinc 2 1 27)) (bn 30 (bl 27 (a_goto 2)) (bl 30 (a_const 0 31)))) (bn 32 (bl 31 (a_istore 2 32)) (bn 33 (bl 32 (a_iload 2 33)) (bl 33 (a_aload 0 34))))))) (bn 54 (bn 44 (bn 39 (bn 37 (bl 34 (a_getf zG0 zT0 12 36 37)) (bl 37 (a_const 7 39))) (bn 40 (bl 39 (a_aload 0 40)) (bn 43 (bl 40 (a_getf zG0 zT0 12 2 43)) (bl 43 (a_bin fmul 44))))) (bn 47 (bn 45 (bl 44 (a_iload 1 45)) (bn 46 (bl 45 (a_bin fadd 46)) (bl 46 (a_ald zG0 zT0 (true, false) ts0 47)))) (bn 50 (bl 47 (a_icmp 3 132 50)) (bn 51 (bl 50 (a_aload 0 51)) (bl 51 (a_getf zG0 zT0 12 37 54)))))) (bn 64 (bn 59 (bn 56 (bl 54 (a_const 8 56)) (bn 58 (bl 56 (a_const 7 58)) (bl 58 (a_aload 0 59)))) (bn 62 (bl 59 (a_getf zG0 zT0 12 2 62)) (bn 63 (bl 62 (a_bin fmul 63)) (bl 63 (a_iload 1 64))))) (bn 67 (bn 65 (bl 64 (a_bin fadd 65)) (bn 66 (bl 65 (a_bin fmul 66)) (bl 66 (a_iload 2 67)))) (bn 68 (bl 67 (a_bin fadd 68)) (bn 69 (bl 68 (a_ald zG0 zT0 (true, false) ts0 69)) (bl 69 (a_istore 3 70)))))))) (bn 108 (bn 90 (bn 78 (bn 72 (bn 71 (bl 70 (a_aload 0 71)) (bl 71 (a_iload 3 72))) (bn 73 (bl 72 (a_iload 1 73)) (bn 76 (bl 73 (a_invV zG0 zprot (true, false) zc_148 (zbd 148) (8, 0, 0) 12 3 76)) (bl 76 (a_istore 4 78))))) (bn 84 (bn 80 (bl 78 (a_iload 4 80)) (bn 83 (bl 80 (a_if 3 90 83)) (bl 83 (a_aload 0 84)))) (bn 85 (bl 84 (a_iload 1 85)) (bn 88 (bl 85 (a_invV zG0 zprot (true, false) zc_135 (zbd 135) (8, 0, 0) 12 2 88)) (bl 88 (a_const 0 89)))))) (bn 101 (bn 97 (bn 91 (bl 90 (a_aload 0 91)) (bn 94 (bl 91 (a_getf zG0 zT0 12 0 94)) (bl 94 (a_const 330 97)))) (bn 99 (bl 97 (a_const 8 99)) (bn 100 (bl 99 (a_iload 1 100)) (bl 100 (a_bin fmul 101))))) (bn 104 (bn 102 (bl 101 (a_bin fadd 102)) (bn 103 (bl 102 (a_iload 2 103)) (bl 103 (a_bin fadd 104)))) (bn 106 (bl 104 (a_iload 4 106)) (bn 107 (bl 106 (a_ast zG0 zT0 ts0 107)) (bl 107 (a_aload 0 108))))))) (bn 124 (bn 118 (bn 113 (bn 111 (bl 108 (a_getf zG0 zT0 12 0 111)) (bl 111 (a_const 40 113))) (bn 115 (bl 113 (a_const 8 115)) (bn 117 (bl 115 (a_iload 4 117)) (bl 117 (a_bin fmul 118))))) (bn 121 (bn 119 (bl 118 (a_bin fadd 119)) (bn 120 (bl 119 (a_iload 3 120)) (bl 120 (a_bin fadd 121)))) (bn 122 (bl 121 (a_dup2 122)) (bn 123 (bl 122 (a_ald zG0 zT0 (true, false) ts0 123)) (bl 123 (a_const 1 124)))))) (bn 136 (bn 129 (bn 125 (bl 124 (a_bin fadd 125)) (bn 126 (bl 125 (a_ast zG0 zT0 ts0 126)) (bl 126 (a_iinc 2 1 129)))) (bn 132 (bl 129 (a_goto 32)) (bn 133 (bl 132 (a_aload 0 133)) (bl 133 (a_getf zG0 zT0 12 0 136))))) (bn 141 (bn 139 (bl 136 (a_const 320 139)) (bn 140 (bl 139 (a_iload 1 140)) (bl 140 (a_bin fadd 141)))) (bn 142 (bl 141 (a_const 1 142)) (bn 143 (bl 142 (a_ast zG0 zT0 ts0 143)) (bl 143 (a_const 1 144))))))))
set_option maxRecDepth 100000 in
set_option maxHeartbeats 4000000 in
theorem zTo_212 {pre : zPre} {post : zPost} (H : zTieC pre post) {d : Nat × Nat × Nat} (hd : zLe (8, 0, 0) d) : aTr zG0 zT0 zInv (true, false) PZ zbd pre post d prog_14_method_65_code "CapitalCaseModel" zTr_212 := (xB_n (xB_n (xB_n (xB_n (xB_n (xB_n (xB_l ⟨_, zs_iconst (v := 0) em185_0 (by decide +kernel), as_const (by decide +kernel)⟩) (xB_l ⟨_, zs_istore_n em185_1, as_istore⟩)) (xB_n (xB_l ⟨_, zs_iload_n em185_2, as_iload⟩) (xB_n (xB_l ⟨_, zs_bipush (v := 8) em185_3 (by decide +kernel), as_const (by decide +kernel)⟩) (xB_l ⟨_, zs_icmpge em185_5 (t := 30) (by decide), as_icmp⟩)))) (xB_n (xB_n (xB_l ⟨_, zs_aload_n em185_8, as_aload⟩) (xB_n (xB_l ⟨_, zs_getf (T := TX12) (M := 70) (ci := 12) (j := 0) em185_9 rfl inX12 (by decide) wd_1332 ((congrFun xo_12 116).trans rfl), as_getf zTie⟩) (xB_l ⟨_, zs_sipush (v := 330) em185_12 (by decide +kernel), as_const (by decide +kernel)⟩))) (xB_n (xB_l ⟨_, zs_bipush (v := 8) em185_15 (by decide +kernel), as_const (by decide +kernel)⟩) (xB_n (xB_l ⟨_, zs_iload_n em185_17, as_iload⟩) (xB_l ⟨_, zs_imul em185_18, as_bin fmul_ok⟩))))) (xB_n (xB_n (xB_n (xB_l ⟨_, zs_iadd em185_19, as_bin fadd_ok⟩) (xB_l ⟨_, zs_iload_n em185_20, as_iload⟩)) (xB_n (xB_l ⟨_, zs_iadd em185_21, as_bin fadd_ok⟩) (xB_n (xB_l ⟨_, zs_iconst (v := (-1)) em185_22 (by decide +kernel), as_const (by decide +kernel)⟩) (xB_l ⟨_, zs_iast zInj0 em185_23, as_iast zTie⟩)))) (xB_n (xB_n (xB_l ⟨_, zs_iinc (k := 1) em185_24 (by decide +kernel), as_iinc (by decide +kernel)⟩) (xB_n (xB_l ⟨_, zs_goto em185_27 (t := 2) (by decide), as_goto⟩) (xB_l ⟨_, zs_iconst (v := 0) em185_30 (by decide +kernel), as_const (by decide +kernel)⟩))) (xB_n (xB_l ⟨_, zs_istore_n em185_31, as_istore⟩) (xB_n (xB_l ⟨_, zs_iload_n em185_32, as_iload⟩) (xB_l ⟨_, zs_aload_n em185_33, as_aload⟩)))))) (xB_n (xB_n (xB_n (xB_n (xB_l ⟨_, zs_getf (T := TX12) (M := 70) (ci := 12) (j := 36) em185_34 rfl inX12 (by decide) wd_1306 ((congrFun xo_12 52).trans rfl), as_getf zTie⟩) (xB_l ⟨_, zs_bipush (v := 7) em185_37 (by decide +kernel), as_const (by decide +kernel)⟩)) (xB_n (xB_l ⟨_, zs_aload_n em185_39, as_aload⟩) (xB_n (xB_l ⟨_, zs_getf (T := TX12) (M := 70) (ci := 12) (j := 2) em185_40 rfl inX12 (by decide) wd_1299 ((congrFun xo_12 230).trans rfl), as_getf zTie⟩) (xB_l ⟨_, zs_imul em185_43, as_bin fmul_ok⟩)))) (xB_n (xB_n (xB_l ⟨_, zs_iload_n em185_44, as_iload⟩) (xB_n (xB_l ⟨_, zs_iadd em185_45, as_bin fadd_ok⟩) (xB_l ⟨_, zs_iald em185_46, ag_iald⟩))) (xB_n (xB_l ⟨_, zs_icmpge em185_47 (t := 132) (by decide), as_icmp⟩) (xB_n (xB_l ⟨_, zs_aload_n em185_50, as_aload⟩) (xB_l ⟨_, zs_getf (T := TX12) (M := 70) (ci := 12) (j := 37) em185_51 rfl inX12 (by decide) wd_1307 ((congrFun xo_12 55).trans rfl), as_getf zTie⟩))))) (xB_n (xB_n (xB_n (xB_l ⟨_, zs_bipush (v := 8) em185_54 (by decide +kernel), as_const (by decide +kernel)⟩) (xB_n (xB_l ⟨_, zs_bipush (v := 7) em185_56 (by decide +kernel), as_const (by decide +kernel)⟩) (xB_l ⟨_, zs_aload_n em185_58, as_aload⟩))) (xB_n (xB_l ⟨_, zs_getf (T := TX12) (M := 70) (ci := 12) (j := 2) em185_59 rfl inX12 (by decide) wd_1299 ((congrFun xo_12 230).trans rfl), as_getf zTie⟩) (xB_n (xB_l ⟨_, zs_imul em185_62, as_bin fmul_ok⟩) (xB_l ⟨_, zs_iload_n em185_63, as_iload⟩)))) (xB_n (xB_n (xB_l ⟨_, zs_iadd em185_64, as_bin fadd_ok⟩) (xB_n (xB_l ⟨_, zs_imul em185_65, as_bin fmul_ok⟩) (xB_l ⟨_, zs_iload_n em185_66, as_iload⟩))) (xB_n (xB_l ⟨_, zs_iadd em185_67, as_bin fadd_ok⟩) (xB_n (xB_l ⟨_, zs_iald em185_68, ag_iald⟩) (xB_l ⟨_, zs_istore_n em185_69, as_istore⟩))))))) (xB_n (xB_n (xB_n (xB_n (xB_n (xB_l ⟨_, zs_aload_n em185_70, as_aload⟩) (xB_l ⟨_, zs_iload_n em185_71, as_iload⟩)) (xB_n (xB_l ⟨_, zs_iload_n em185_72, as_iload⟩) (xB_n (xB_l ⟨_, zs_invV (T := TX12) em185_73 zl_148 rfl wd_1719 wd_1721 wd_89 ((congrFun xo_12 377).trans rfl) xm_141, ag_invV H zh_148 hd (by decide)⟩) (xB_l ⟨_, zs_istore em185_76, as_istore⟩)))) (xB_n (xB_n (xB_l ⟨_, zs_iload em185_78, as_iload⟩) (xB_n (xB_l ⟨_, zs_ifge em185_80 (t := 90) (by decide), as_if⟩) (xB_l ⟨_, zs_aload_n em185_83, as_aload⟩))) (xB_n (xB_l ⟨_, zs_iload_n em185_84, as_iload⟩) (xB_n (xB_l ⟨_, zs_invV (T := TX12) em185_85 zl_135 rfl wd_1723 wd_1725 wd_90 ((congrFun xo_12 380).trans rfl) xm_128, ag_invV H zh_135 hd (by decide)⟩) (xB_l ⟨_, zs_iconst (v := 0) em185_88 (by decide +kernel), as_const (by decide +kernel)⟩))))) (xB_n (xB_n (xB_n (xB_l ⟨_, zs_aload_n em185_90, as_aload⟩) (xB_n (xB_l ⟨_, zs_getf (T := TX12) (M := 70) (ci := 12) (j := 0) em185_91 rfl inX12 (by decide) wd_1332 ((congrFun xo_12 116).trans rfl), as_getf zTie⟩) (xB_l ⟨_, zs_sipush (v := 330) em185_94 (by decide +kernel), as_const (by decide +kernel)⟩))) (xB_n (xB_l ⟨_, zs_bipush (v := 8) em185_97 (by decide +kernel), as_const (by decide +kernel)⟩) (xB_n (xB_l ⟨_, zs_iload_n em185_99, as_iload⟩) (xB_l ⟨_, zs_imul em185_100, as_bin fmul_ok⟩)))) (xB_n (xB_n (xB_l ⟨_, zs_iadd em185_101, as_bin fadd_ok⟩) (xB_n (xB_l ⟨_, zs_iload_n em185_102, as_iload⟩) (xB_l ⟨_, zs_iadd em185_103, as_bin fadd_ok⟩))) (xB_n (xB_l ⟨_, zs_iload em185_104, as_iload⟩) (xB_n (xB_l ⟨_, zs_iast zInj0 em185_106, as_iast zTie⟩) (xB_l ⟨_, zs_aload_n em185_107, as_aload⟩)))))) (xB_n (xB_n (xB_n (xB_n (xB_l ⟨_, zs_getf (T := TX12) (M := 70) (ci := 12) (j := 0) em185_108 rfl inX12 (by decide) wd_1332 ((congrFun xo_12 116).trans rfl), as_getf zTie⟩) (xB_l ⟨_, zs_bipush (v := 40) em185_111 (by decide +kernel), as_const (by decide +kernel)⟩)) (xB_n (xB_l ⟨_, zs_bipush (v := 8) em185_113 (by decide +kernel), as_const (by decide +kernel)⟩) (xB_n (xB_l ⟨_, zs_iload em185_115, as_iload⟩) (xB_l ⟨_, zs_imul em185_117, as_bin fmul_ok⟩)))) (xB_n (xB_n (xB_l ⟨_, zs_iadd em185_118, as_bin fadd_ok⟩) (xB_n (xB_l ⟨_, zs_iload_n em185_119, as_iload⟩) (xB_l ⟨_, zs_iadd em185_120, as_bin fadd_ok⟩))) (xB_n (xB_l ⟨_, zs_dup2 em185_121, as_dup2⟩) (xB_n (xB_l ⟨_, zs_iald em185_122, ag_iald⟩) (xB_l ⟨_, zs_iconst (v := 1) em185_123 (by decide +kernel), as_const (by decide +kernel)⟩))))) (xB_n (xB_n (xB_n (xB_l ⟨_, zs_iadd em185_124, as_bin fadd_ok⟩) (xB_n (xB_l ⟨_, zs_iast zInj0 em185_125, as_iast zTie⟩) (xB_l ⟨_, zs_iinc (k := 1) em185_126 (by decide +kernel), as_iinc (by decide +kernel)⟩))) (xB_n (xB_l ⟨_, zs_goto em185_129 (t := 32) (by decide), as_goto⟩) (xB_n (xB_l ⟨_, zs_aload_n em185_132, as_aload⟩) (xB_l ⟨_, zs_getf (T := TX12) (M := 70) (ci := 12) (j := 0) em185_133 rfl inX12 (by decide) wd_1332 ((congrFun xo_12 116).trans rfl), as_getf zTie⟩)))) (xB_n (xB_n (xB_l ⟨_, zs_sipush (v := 320) em185_136 (by decide +kernel), as_const (by decide +kernel)⟩) (xB_n (xB_l ⟨_, zs_iload_n em185_139, as_iload⟩) (xB_l ⟨_, zs_iadd em185_140, as_bin fadd_ok⟩))) (xB_n (xB_l ⟨_, zs_iconst (v := 1) em185_141 (by decide +kernel), as_const (by decide +kernel)⟩) (xB_n (xB_l ⟨_, zs_iast zInj0 em185_142, as_iast zTie⟩) (xB_l ⟨_, zs_iconst (v := 1) em185_143 (by decide +kernel), as_const (by decide +kernel)⟩))))))))
set_option maxRecDepth 100000 in
set_option maxHeartbeats 4000000 in
theorem zM_212 : zOKa 212 zc_212 := z_auto (cuts := [(2, ([(0, 0), (0, 6), (0, 1), (0, 8)], [], [some (.inr (.inl (0, 75))), some (.inl (1, 0)), some (.inl (3, 0)), none, none], [], [(22, 2, 0)], (0, 0)), [(0, 2)], 17, [0, 0, 0, (-1)]), (32, ([(0, 0), (0, 6), (0, 1), (0, 8)], [], [some (.inr (.inl (0, 75))), some (.inl (1, 0)), some (.inl (3, 0)), none, none], [], [(22, 2, 0)], (0, 0)), [(0, 2)], 8, [0, 0, 0, (-1)])]) (rets := [(89, 2), (144, 2)]) (fuel := 1000) rfl rfl (by decide) (xrt_ok (xR_c (Or.inr (Or.inl ⟨rfl, em185_89, rfl⟩)) (xR_c (Or.inr (Or.inl ⟨rfl, em185_144, rfl⟩)) (xR_n)))) (fun _ _ H _ hd => zTo_212 H hd) (by decide +kernel)
