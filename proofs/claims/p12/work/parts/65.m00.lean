theorem em2_0 : decode prog_3_method_2_code 0 = .ok (.aload_n 0, 1) := by decide +kernel
theorem em2_1 : decode prog_3_method_2_code 1 = .ok (.iload 4, 2) := by decide +kernel
theorem em2_3 : decode prog_3_method_2_code 3 = .ok (.invokevirtual 22, 3) := by decide +kernel
theorem em2_6 : decode prog_3_method_2_code 6 = .ok (.aload_n 0, 1) := by decide +kernel
theorem em2_7 : decode prog_3_method_2_code 7 = .ok (.aload_n 1, 1) := by decide +kernel
theorem em2_8 : decode prog_3_method_2_code 8 = .ok (.iload_n 2, 1) := by decide +kernel
theorem em2_9 : decode prog_3_method_2_code 9 = .ok (.iload_n 3, 1) := by decide +kernel
theorem em2_10 : decode prog_3_method_2_code 10 = .ok (.invokevirtual 26, 3) := by decide +kernel
theorem em2_13 : decode prog_3_method_2_code 13 = .ok (.aload_n 0, 1) := by decide +kernel
theorem em2_14 : decode prog_3_method_2_code 14 = .ok (.iconst 0, 1) := by decide +kernel
theorem em2_15 : decode prog_3_method_2_code 15 = .ok (.invokevirtual 32, 3) := by decide +kernel
theorem em2_18 : decode prog_3_method_2_code 18 = .ok (.ifCond .le 7, 3) := by decide +kernel
theorem em2_21 : decode prog_3_method_2_code 21 = .ok (.iconst 1, 1) := by decide +kernel
theorem em2_22 : decode prog_3_method_2_code 22 = .ok (.goto 4, 3) := by decide +kernel
theorem em2_25 : decode prog_3_method_2_code 25 = .ok (.iconst 0, 1) := by decide +kernel
theorem em2_26 : decode prog_3_method_2_code 26 = .ok (.ireturn, 1) := by decide +kernel
/-! CapitalCase$Judge.givesLeave:(LCapitalCase$Town;III)Z -/
noncomputable def zTr_2 : Nat → Option aF := bn 10 (bn 6 (bn 1 (bl 0 (a_aload 0 1)) (bn 3 (bl 1 (a_iload 4 3)) (bl 3 (a_invV zG0 zprot (true, false) zc_5 (zbd 5) (6, 0, 0) 1 2 6)))) (bn 8 (bn 7 (bl 6 (a_aload 0 7)) (bl 7 (a_aload 1 8))) (bn 9 (bl 8 (a_iload 2 9)) (bl 9 (a_iload 3 10))))) (bn 18 (bn 14 (bn 13 (bl 10 (a_invV zG0 zprot (true, false) zc_4 (zbd 4) (6, 0, 0) 1 4 13)) (bl 13 (a_aload 0 14))) (bn 15 (bl 14 (a_const 0 15)) (bl 15 (a_invV zG0 zprot (true, false) zc_3 (zbd 3) (6, 0, 0) 1 2 18)))) (bn 22 (bn 21 (bl 18 (a_if 5 25 21)) (bl 21 (a_const 1 22))) (bn 25 (bl 22 (a_goto 26)) (bl 25 (a_const 0 26)))))
set_option maxRecDepth 100000 in
set_option maxHeartbeats 4000000 in
theorem zTo_2 {pre : zPre} {post : zPost} (H : zTieC pre post) {d : Nat × Nat × Nat} (hd : zLe (6, 0, 0) d) : aTr zG0 zT0 zInv (true, false) PZ zbd pre post d prog_3_method_2_code "CapitalCase$Judge" zTr_2 := (xB_n (xB_n (xB_n (xB_l ⟨_, zs_aload_n em2_0, as_aload⟩) (xB_n (xB_l ⟨_, zs_iload em2_1, as_iload⟩) (xB_l ⟨_, zs_invV (T := TX1) em2_3 zl_5 rfl wd_906 wd_908 wd_25 ((congrFun xo_2 22).trans rfl) xm_5, ag_invV H zh_5 hd (by decide)⟩))) (xB_n (xB_n (xB_l ⟨_, zs_aload_n em2_6, as_aload⟩) (xB_l ⟨_, zs_aload_n em2_7, as_aload⟩)) (xB_n (xB_l ⟨_, zs_iload_n em2_8, as_iload⟩) (xB_l ⟨_, zs_iload_n em2_9, as_iload⟩)))) (xB_n (xB_n (xB_n (xB_l ⟨_, zs_invV (T := TX1) em2_10 zl_4 rfl wd_876 wd_878 wd_21 ((congrFun xo_2 26).trans rfl) xm_4, ag_invV H zh_4 hd (by decide)⟩) (xB_l ⟨_, zs_aload_n em2_13, as_aload⟩)) (xB_n (xB_l ⟨_, zs_iconst (v := 0) em2_14 (by decide +kernel), as_const (by decide +kernel)⟩) (xB_l ⟨_, zs_invV (T := TX1) em2_15 zl_3 rfl wd_881 wd_883 wd_22 ((congrFun xo_2 32).trans rfl) xm_3, ag_invV H zh_3 hd (by decide)⟩))) (xB_n (xB_n (xB_l ⟨_, zs_ifle em2_18 (t := 25) (by decide), as_if⟩) (xB_l ⟨_, zs_iconst (v := 1) em2_21 (by decide +kernel), as_const (by decide +kernel)⟩)) (xB_n (xB_l ⟨_, zs_goto em2_22 (t := 26) (by decide), as_goto⟩) (xB_l ⟨_, zs_iconst (v := 0) em2_25 (by decide +kernel), as_const (by decide +kernel)⟩)))))
set_option maxRecDepth 100000 in
set_option maxHeartbeats 4000000 in
theorem zM_2 : zOKa 2 zc_2 := z_auto (cuts := []) (rets := [(26, 2)]) (fuel := 1000) rfl rfl (by decide) (xrt_ok (xR_c (Or.inr (Or.inl ⟨rfl, em2_26, rfl⟩)) (xR_n))) (fun _ _ H _ hd => zTo_2 H hd) (by decide +kernel)
theorem em4_0 : decode prog_3_method_7_code 0 = .ok (.iload_n 2, 1) := by decide +kernel
theorem em4_1 : decode prog_3_method_7_code 1 = .ok (.bipush 8, 2) := by decide +kernel
theorem em4_3 : decode prog_3_method_7_code 3 = .ok (.imul, 1) := by decide +kernel
theorem em4_4 : decode prog_3_method_7_code 4 = .ok (.iload_n 3, 1) := by decide +kernel
theorem em4_5 : decode prog_3_method_7_code 5 = .ok (.iadd, 1) := by decide +kernel
theorem em4_6 : decode prog_3_method_7_code 6 = .ok (.istore 4, 2) := by decide +kernel
theorem em4_8 : decode prog_3_method_7_code 8 = .ok (.aload_n 0, 1) := by decide +kernel
theorem em4_9 : decode prog_3_method_7_code 9 = .ok (.getfield 11, 3) := by decide +kernel
theorem em4_12 : decode prog_3_method_7_code 12 = .ok (.iconst 2, 1) := by decide +kernel
theorem em4_13 : decode prog_3_method_7_code 13 = .ok (.aload_n 1, 1) := by decide +kernel
theorem em4_14 : decode prog_3_method_7_code 14 = .ok (.getfield 60, 3) := by decide +kernel
theorem em4_17 : decode prog_3_method_7_code 17 = .ok (.iastore, 1) := by decide +kernel
theorem em4_18 : decode prog_3_method_7_code 18 = .ok (.aload_n 0, 1) := by decide +kernel
theorem em4_19 : decode prog_3_method_7_code 19 = .ok (.getfield 11, 3) := by decide +kernel
theorem em4_22 : decode prog_3_method_7_code 22 = .ok (.iconst 3, 1) := by decide +kernel
theorem em4_23 : decode prog_3_method_7_code 23 = .ok (.aload_n 1, 1) := by decide +kernel
theorem em4_24 : decode prog_3_method_7_code 24 = .ok (.getfield 66, 3) := by decide +kernel
theorem em4_27 : decode prog_3_method_7_code 27 = .ok (.iload 4, 2) := by decide +kernel
theorem em4_29 : decode prog_3_method_7_code 29 = .ok (.iaload, 1) := by decide +kernel
theorem em4_30 : decode prog_3_method_7_code 30 = .ok (.iastore, 1) := by decide +kernel
theorem em4_31 : decode prog_3_method_7_code 31 = .ok (.aload_n 0, 1) := by decide +kernel
theorem em4_32 : decode prog_3_method_7_code 32 = .ok (.getfield 11, 3) := by decide +kernel
theorem em4_35 : decode prog_3_method_7_code 35 = .ok (.iconst 4, 1) := by decide +kernel
theorem em4_36 : decode prog_3_method_7_code 36 = .ok (.aload_n 1, 1) := by decide +kernel
theorem em4_37 : decode prog_3_method_7_code 37 = .ok (.getfield 69, 3) := by decide +kernel
theorem em4_40 : decode prog_3_method_7_code 40 = .ok (.iload 4, 2) := by decide +kernel
theorem em4_42 : decode prog_3_method_7_code 42 = .ok (.iaload, 1) := by decide +kernel
theorem em4_43 : decode prog_3_method_7_code 43 = .ok (.iastore, 1) := by decide +kernel
theorem em4_44 : decode prog_3_method_7_code 44 = .ok (.aload_n 0, 1) := by decide +kernel
theorem em4_45 : decode prog_3_method_7_code 45 = .ok (.getfield 11, 3) := by decide +kernel
theorem em4_48 : decode prog_3_method_7_code 48 = .ok (.iconst 5, 1) := by decide +kernel
theorem em4_49 : decode prog_3_method_7_code 49 = .ok (.iload_n 2, 1) := by decide +kernel
theorem em4_50 : decode prog_3_method_7_code 50 = .ok (.iastore, 1) := by decide +kernel
theorem em4_51 : decode prog_3_method_7_code 51 = .ok (.aload_n 0, 1) := by decide +kernel
theorem em4_52 : decode prog_3_method_7_code 52 = .ok (.getfield 11, 3) := by decide +kernel
theorem em4_55 : decode prog_3_method_7_code 55 = .ok (.bipush 6, 2) := by decide +kernel
theorem em4_57 : decode prog_3_method_7_code 57 = .ok (.iload_n 3, 1) := by decide +kernel
theorem em4_58 : decode prog_3_method_7_code 58 = .ok (.iastore, 1) := by decide +kernel
theorem em4_59 : decode prog_3_method_7_code 59 = .ok (.aload_n 0, 1) := by decide +kernel
theorem em4_60 : decode prog_3_method_7_code 60 = .ok (.getfield 11, 3) := by decide +kernel
theorem em4_63 : decode prog_3_method_7_code 63 = .ok (.bipush 8, 2) := by decide +kernel
theorem em4_65 : decode prog_3_method_7_code 65 = .ok (.aload_n 1, 1) := by decide +kernel
theorem em4_66 : decode prog_3_method_7_code 66 = .ok (.iload_n 2, 1) := by decide +kernel
theorem em4_67 : decode prog_3_method_7_code 67 = .ok (.iload_n 3, 1) := by decide +kernel
theorem em4_68 : decode prog_3_method_7_code 68 = .ok (.invokevirtual 72, 3) := by decide +kernel
theorem em4_71 : decode prog_3_method_7_code 71 = .ok (.iastore, 1) := by decide +kernel
theorem em4_72 : decode prog_3_method_7_code 72 = .ok (.return_, 1) := by decide +kernel
/-! CapitalCase$Judge.lookAtHouse:(LCapitalCase$Town;II)V -/
noncomputable def zTr_4 : Nat → Option aF := bn 36 (bn 17 (bn 6 (bn 3 (bn 1 (bl 0 (a_iload 2 1)) (bl 1 (a_const 8 3))) (bn 4 (bl 3 (a_bin fmul 4)) (bn 5 (bl 4 (a_iload 3 5)) (bl 5 (a_bin fadd 6))))) (bn 12 (bn 8 (bl 6 (a_istore 4 8)) (bn 9 (bl 8 (a_aload 0 9)) (bl 9 (a_getf zG0 zT0 1 1 12)))) (bn 13 (bl 12 (a_const 2 13)) (bn 14 (bl 13 (a_aload 1 14)) (bl 14 (a_getf zG0 zT0 8 7 17)))))) (bn 27 (bn 22 (bn 18 (bl 17 (a_ast zG0 zT0 ts0 18)) (bn 19 (bl 18 (a_aload 0 19)) (bl 19 (a_getf zG0 zT0 1 1 22)))) (bn 23 (bl 22 (a_const 3 23)) (bn 24 (bl 23 (a_aload 1 24)) (bl 24 (a_getf zG0 zT0 8 2 27))))) (bn 31 (bn 29 (bl 27 (a_iload 4 29)) (bn 30 (bl 29 (a_ald zG0 zT0 (false, false) ts0 30)) (bl 30 (a_ast zG0 zT0 ts0 31)))) (bn 32 (bl 31 (a_aload 0 32)) (bn 35 (bl 32 (a_getf zG0 zT0 1 1 35)) (bl 35 (a_const 4 36))))))) (bn 52 (bn 44 (bn 40 (bn 37 (bl 36 (a_aload 1 37)) (bl 37 (a_getf zG0 zT0 8 0 40))) (bn 42 (bl 40 (a_iload 4 42)) (bn 43 (bl 42 (a_ald zG0 zT0 (false, false) ts0 43)) (bl 43 (a_ast zG0 zT0 ts0 44))))) (bn 49 (bn 45 (bl 44 (a_aload 0 45)) (bn 48 (bl 45 (a_getf zG0 zT0 1 1 48)) (bl 48 (a_const 5 49)))) (bn 50 (bl 49 (a_iload 2 50)) (bn 51 (bl 50 (a_ast zG0 zT0 ts0 51)) (bl 51 (a_aload 0 52)))))) (bn 63 (bn 58 (bn 55 (bl 52 (a_getf zG0 zT0 1 1 55)) (bn 57 (bl 55 (a_const 6 57)) (bl 57 (a_iload 3 58)))) (bn 59 (bl 58 (a_ast zG0 zT0 ts0 59)) (bn 60 (bl 59 (a_aload 0 60)) (bl 60 (a_getf zG0 zT0 1 1 63))))) (bn 67 (bn 65 (bl 63 (a_const 8 65)) (bn 66 (bl 65 (a_aload 1 66)) (bl 66 (a_iload 2 67)))) (bn 68 (bl 67 (a_iload 3 68)) (bn 71 (bl 68 (a_invV zG0 zprot (false, false) zc_57 (zbd 57) (1, 0, 0) 8 3 71)) (bl 71 (a_ast zG0 zT0 ts0 72)))))))
set_option maxRecDepth 100000 in
set_option maxHeartbeats 4000000 in
theorem zTo_4 {pre : zPre} {post : zPost} (H : zTieC pre post) {d : Nat × Nat × Nat} (hd : zLe (1, 0, 0) d) : aTr zG0 zT0 zInv (false, false) PZ zbd pre post d prog_3_method_7_code "CapitalCase$Judge" zTr_4 := (xB_n (xB_n (xB_n (xB_n (xB_n (xB_l ⟨_, zs_iload_n em4_0, as_iload⟩) (xB_l ⟨_, zs_bipush (v := 8) em4_1 (by decide +kernel), as_const (by decide +kernel)⟩)) (xB_n (xB_l ⟨_, zs_imul em4_3, as_bin fmul_ok⟩) (xB_n (xB_l ⟨_, zs_iload_n em4_4, as_iload⟩) (xB_l ⟨_, zs_iadd em4_5, as_bin fadd_ok⟩)))) (xB_n (xB_n (xB_l ⟨_, zs_istore em4_6, as_istore⟩) (xB_n (xB_l ⟨_, zs_aload_n em4_8, as_aload⟩) (xB_l ⟨_, zs_getf (T := TX1) (M := 3) (ci := 1) (j := 1) em4_9 rfl inX1 (by decide) wd_423 ((congrFun xo_2 11).trans rfl), as_getf zTie⟩))) (xB_n (xB_l ⟨_, zs_iconst (v := 2) em4_12 (by decide +kernel), as_const (by decide +kernel)⟩) (xB_n (xB_l ⟨_, zs_aload_n em4_13, as_aload⟩) (xB_l ⟨_, zs_getf (T := TX8) (M := 10) (ci := 8) (j := 7) em4_14 rfl inX8 (by decide) wd_348 ((congrFun xo_2 60).trans rfl), as_getf zTie⟩))))) (xB_n (xB_n (xB_n (xB_l ⟨_, zs_iast zInj0 em4_17, as_iast zTie⟩) (xB_n (xB_l ⟨_, zs_aload_n em4_18, as_aload⟩) (xB_l ⟨_, zs_getf (T := TX1) (M := 3) (ci := 1) (j := 1) em4_19 rfl inX1 (by decide) wd_423 ((congrFun xo_2 11).trans rfl), as_getf zTie⟩))) (xB_n (xB_l ⟨_, zs_iconst (v := 3) em4_22 (by decide +kernel), as_const (by decide +kernel)⟩) (xB_n (xB_l ⟨_, zs_aload_n em4_23, as_aload⟩) (xB_l ⟨_, zs_getf (T := TX8) (M := 10) (ci := 8) (j := 2) em4_24 rfl inX8 (by decide) wd_332 ((congrFun xo_2 66).trans rfl), as_getf zTie⟩)))) (xB_n (xB_n (xB_l ⟨_, zs_iload em4_27, as_iload⟩) (xB_n (xB_l ⟨_, zs_iald em4_29, ag_iald⟩) (xB_l ⟨_, zs_iast zInj0 em4_30, as_iast zTie⟩))) (xB_n (xB_l ⟨_, zs_aload_n em4_31, as_aload⟩) (xB_n (xB_l ⟨_, zs_getf (T := TX1) (M := 3) (ci := 1) (j := 1) em4_32 rfl inX1 (by decide) wd_423 ((congrFun xo_2 11).trans rfl), as_getf zTie⟩) (xB_l ⟨_, zs_iconst (v := 4) em4_35 (by decide +kernel), as_const (by decide +kernel)⟩)))))) (xB_n (xB_n (xB_n (xB_n (xB_l ⟨_, zs_aload_n em4_36, as_aload⟩) (xB_l ⟨_, zs_getf (T := TX8) (M := 10) (ci := 8) (j := 0) em4_37 rfl inX8 (by decide) wd_322 ((congrFun xo_2 69).trans rfl), as_getf zTie⟩)) (xB_n (xB_l ⟨_, zs_iload em4_40, as_iload⟩) (xB_n (xB_l ⟨_, zs_iald em4_42, ag_iald⟩) (xB_l ⟨_, zs_iast zInj0 em4_43, as_iast zTie⟩)))) (xB_n (xB_n (xB_l ⟨_, zs_aload_n em4_44, as_aload⟩) (xB_n (xB_l ⟨_, zs_getf (T := TX1) (M := 3) (ci := 1) (j := 1) em4_45 rfl inX1 (by decide) wd_423 ((congrFun xo_2 11).trans rfl), as_getf zTie⟩) (xB_l ⟨_, zs_iconst (v := 5) em4_48 (by decide +kernel), as_const (by decide +kernel)⟩))) (xB_n (xB_l ⟨_, zs_iload_n em4_49, as_iload⟩) (xB_n (xB_l ⟨_, zs_iast zInj0 em4_50, as_iast zTie⟩) (xB_l ⟨_, zs_aload_n em4_51, as_aload⟩))))) (xB_n (xB_n (xB_n (xB_l ⟨_, zs_getf (T := TX1) (M := 3) (ci := 1) (j := 1) em4_52 rfl inX1 (by decide) wd_423 ((congrFun xo_2 11).trans rfl), as_getf zTie⟩) (xB_n (xB_l ⟨_, zs_bipush (v := 6) em4_55 (by decide +kernel), as_const (by decide +kernel)⟩) (xB_l ⟨_, zs_iload_n em4_57, as_iload⟩))) (xB_n (xB_l ⟨_, zs_iast zInj0 em4_58, as_iast zTie⟩) (xB_n (xB_l ⟨_, zs_aload_n em4_59, as_aload⟩) (xB_l ⟨_, zs_getf (T := TX1) (M := 3) (ci := 1) (j := 1) em4_60 rfl inX1 (by decide) wd_423 ((congrFun xo_2 11).trans rfl), as_getf zTie⟩)))) (xB_n (xB_n (xB_l ⟨_, zs_bipush (v := 8) em4_63 (by decide +kernel), as_const (by decide +kernel)⟩) (xB_n (xB_l ⟨_, zs_aload_n em4_65, as_aload⟩) (xB_l ⟨_, zs_iload_n em4_66, as_iload⟩))) (xB_n (xB_l ⟨_, zs_iload_n em4_67, as_iload⟩) (xB_n (xB_l ⟨_, zs_invV (T := TX8) em4_68 zl_57 rfl wd_880 wd_864 wd_865 ((congrFun xo_2 72).trans rfl) xm_53, ag_invV H zh_57 hd (by decide)⟩) (xB_l ⟨_, zs_iast zInj0 em4_71, as_iast zTie⟩)))))))
set_option maxRecDepth 100000 in
set_option maxHeartbeats 4000000 in
theorem zM_4 : zOKa 4 zc_4 := z_auto (cuts := []) (rets := [(72, 3)]) (fuel := 1000) rfl rfl (by decide) (xrt_ok (xR_c (Or.inr (Or.inr (Or.inl ⟨rfl, em4_72, rfl⟩))) (xR_n))) (fun _ _ H _ hd => zTo_4 H hd) (by decide +kernel)
theorem em5_0 : decode prog_3_method_6_code 0 = .ok (.aload_n 0, 1) := by decide +kernel
theorem em5_1 : decode prog_3_method_6_code 1 = .ok (.getfield 11, 3) := by decide +kernel
theorem em5_4 : decode prog_3_method_6_code 4 = .ok (.iconst 0, 1) := by decide +kernel
theorem em5_5 : decode prog_3_method_6_code 5 = .ok (.aload_n 0, 1) := by decide +kernel
theorem em5_6 : decode prog_3_method_6_code 6 = .ok (.getfield 18, 3) := by decide +kernel
theorem em5_9 : decode prog_3_method_6_code 9 = .ok (.getfield 51, 3) := by decide +kernel
theorem em5_12 : decode prog_3_method_6_code 12 = .ok (.iload_n 1, 1) := by decide +kernel
theorem em5_13 : decode prog_3_method_6_code 13 = .ok (.iaload, 1) := by decide +kernel
theorem em5_14 : decode prog_3_method_6_code 14 = .ok (.iastore, 1) := by decide +kernel
theorem em5_15 : decode prog_3_method_6_code 15 = .ok (.aload_n 0, 1) := by decide +kernel
theorem em5_16 : decode prog_3_method_6_code 16 = .ok (.getfield 11, 3) := by decide +kernel
theorem em5_19 : decode prog_3_method_6_code 19 = .ok (.iconst 1, 1) := by decide +kernel
theorem em5_20 : decode prog_3_method_6_code 20 = .ok (.aload_n 0, 1) := by decide +kernel
theorem em5_21 : decode prog_3_method_6_code 21 = .ok (.getfield 18, 3) := by decide +kernel
theorem em5_24 : decode prog_3_method_6_code 24 = .ok (.getfield 54, 3) := by decide +kernel
theorem em5_27 : decode prog_3_method_6_code 27 = .ok (.iload_n 1, 1) := by decide +kernel
theorem em5_28 : decode prog_3_method_6_code 28 = .ok (.iaload, 1) := by decide +kernel
theorem em5_29 : decode prog_3_method_6_code 29 = .ok (.iastore, 1) := by decide +kernel
theorem em5_30 : decode prog_3_method_6_code 30 = .ok (.aload_n 0, 1) := by decide +kernel
theorem em5_31 : decode prog_3_method_6_code 31 = .ok (.getfield 11, 3) := by decide +kernel
theorem em5_34 : decode prog_3_method_6_code 34 = .ok (.bipush 7, 2) := by decide +kernel
theorem em5_36 : decode prog_3_method_6_code 36 = .ok (.aload_n 0, 1) := by decide +kernel
theorem em5_37 : decode prog_3_method_6_code 37 = .ok (.getfield 18, 3) := by decide +kernel
theorem em5_40 : decode prog_3_method_6_code 40 = .ok (.getfield 57, 3) := by decide +kernel
theorem em5_43 : decode prog_3_method_6_code 43 = .ok (.iload_n 1, 1) := by decide +kernel
theorem em5_44 : decode prog_3_method_6_code 44 = .ok (.iaload, 1) := by decide +kernel
theorem em5_45 : decode prog_3_method_6_code 45 = .ok (.iastore, 1) := by decide +kernel
theorem em5_46 : decode prog_3_method_6_code 46 = .ok (.return_, 1) := by decide +kernel
/-! CapitalCase$Judge.lookAtVerse:(I)V -/
noncomputable def zTr_5 : Nat → Option aF := bn 21 (bn 12 (bn 5 (bn 1 (bl 0 (a_aload 0 1)) (bn 4 (bl 1 (a_getf zG0 zT0 1 1 4)) (bl 4 (a_const 0 5)))) (bn 6 (bl 5 (a_aload 0 6)) (bn 9 (bl 6 (a_getf zG0 zT0 1 0 9)) (bl 9 (a_getf zG0 zT0 6 6 12))))) (bn 15 (bn 13 (bl 12 (a_iload 1 13)) (bn 14 (bl 13 (a_ald zG0 zT0 (true, false) ts0 14)) (bl 14 (a_ast zG0 zT0 ts0 15)))) (bn 19 (bn 16 (bl 15 (a_aload 0 16)) (bl 16 (a_getf zG0 zT0 1 1 19))) (bn 20 (bl 19 (a_const 1 20)) (bl 20 (a_aload 0 21)))))) (bn 34 (bn 28 (bn 24 (bl 21 (a_getf zG0 zT0 1 0 24)) (bn 27 (bl 24 (a_getf zG0 zT0 6 7 27)) (bl 27 (a_iload 1 28)))) (bn 30 (bn 29 (bl 28 (a_ald zG0 zT0 (true, false) ts0 29)) (bl 29 (a_ast zG0 zT0 ts0 30))) (bn 31 (bl 30 (a_aload 0 31)) (bl 31 (a_getf zG0 zT0 1 1 34))))) (bn 40 (bn 36 (bl 34 (a_const 7 36)) (bn 37 (bl 36 (a_aload 0 37)) (bl 37 (a_getf zG0 zT0 1 0 40)))) (bn 44 (bn 43 (bl 40 (a_getf zG0 zT0 6 8 43)) (bl 43 (a_iload 1 44))) (bn 45 (bl 44 (a_ald zG0 zT0 (true, false) ts0 45)) (bl 45 (a_ast zG0 zT0 ts0 46))))))
set_option maxRecDepth 100000 in
set_option maxHeartbeats 4000000 in
theorem zTo_5 {pre : zPre} {post : zPost} (H : zTieC pre post) {d : Nat × Nat × Nat} (hd : zLe (0, 0, 0) d) : aTr zG0 zT0 zInv (true, false) PZ zbd pre post d prog_3_method_6_code "CapitalCase$Judge" zTr_5 := (xB_n (xB_n (xB_n (xB_n (xB_l ⟨_, zs_aload_n em5_0, as_aload⟩) (xB_n (xB_l ⟨_, zs_getf (T := TX1) (M := 3) (ci := 1) (j := 1) em5_1 rfl inX1 (by decide) wd_423 ((congrFun xo_2 11).trans rfl), as_getf zTie⟩) (xB_l ⟨_, zs_iconst (v := 0) em5_4 (by decide +kernel), as_const (by decide +kernel)⟩))) (xB_n (xB_l ⟨_, zs_aload_n em5_5, as_aload⟩) (xB_n (xB_l ⟨_, zs_getf (T := TX1) (M := 3) (ci := 1) (j := 0) em5_6 rfl inX1 (by decide) wd_422 ((congrFun xo_2 18).trans rfl), as_getf zTie⟩) (xB_l ⟨_, zs_getf (T := TX6) (M := 15) (ci := 6) (j := 6) em5_9 rfl inX6 (by decide) wd_188 ((congrFun xo_2 51).trans rfl), as_getf zTie⟩)))) (xB_n (xB_n (xB_l ⟨_, zs_iload_n em5_12, as_iload⟩) (xB_n (xB_l ⟨_, zs_iald em5_13, ag_iald⟩) (xB_l ⟨_, zs_iast zInj0 em5_14, as_iast zTie⟩))) (xB_n (xB_n (xB_l ⟨_, zs_aload_n em5_15, as_aload⟩) (xB_l ⟨_, zs_getf (T := TX1) (M := 3) (ci := 1) (j := 1) em5_16 rfl inX1 (by decide) wd_423 ((congrFun xo_2 11).trans rfl), as_getf zTie⟩)) (xB_n (xB_l ⟨_, zs_iconst (v := 1) em5_19 (by decide +kernel), as_const (by decide +kernel)⟩) (xB_l ⟨_, zs_aload_n em5_20, as_aload⟩))))) (xB_n (xB_n (xB_n (xB_l ⟨_, zs_getf (T := TX1) (M := 3) (ci := 1) (j := 0) em5_21 rfl inX1 (by decide) wd_422 ((congrFun xo_2 18).trans rfl), as_getf zTie⟩) (xB_n (xB_l ⟨_, zs_getf (T := TX6) (M := 15) (ci := 6) (j := 7) em5_24 rfl inX6 (by decide) wd_192 ((congrFun xo_2 54).trans rfl), as_getf zTie⟩) (xB_l ⟨_, zs_iload_n em5_27, as_iload⟩))) (xB_n (xB_n (xB_l ⟨_, zs_iald em5_28, ag_iald⟩) (xB_l ⟨_, zs_iast zInj0 em5_29, as_iast zTie⟩)) (xB_n (xB_l ⟨_, zs_aload_n em5_30, as_aload⟩) (xB_l ⟨_, zs_getf (T := TX1) (M := 3) (ci := 1) (j := 1) em5_31 rfl inX1 (by decide) wd_423 ((congrFun xo_2 11).trans rfl), as_getf zTie⟩)))) (xB_n (xB_n (xB_l ⟨_, zs_bipush (v := 7) em5_34 (by decide +kernel), as_const (by decide +kernel)⟩) (xB_n (xB_l ⟨_, zs_aload_n em5_36, as_aload⟩) (xB_l ⟨_, zs_getf (T := TX1) (M := 3) (ci := 1) (j := 0) em5_37 rfl inX1 (by decide) wd_422 ((congrFun xo_2 18).trans rfl), as_getf zTie⟩))) (xB_n (xB_n (xB_l ⟨_, zs_getf (T := TX6) (M := 15) (ci := 6) (j := 8) em5_40 rfl inX6 (by decide) wd_198 ((congrFun xo_2 57).trans rfl), as_getf zTie⟩) (xB_l ⟨_, zs_iload_n em5_43, as_iload⟩)) (xB_n (xB_l ⟨_, zs_iald em5_44, ag_iald⟩) (xB_l ⟨_, zs_iast zInj0 em5_45, as_iast zTie⟩))))))
set_option maxRecDepth 100000 in
set_option maxHeartbeats 4000000 in
theorem zM_5 : zOKa 5 zc_5 := z_auto (cuts := []) (rets := [(46, 3)]) (fuel := 1000) rfl rfl (by decide) (xrt_ok (xR_c (Or.inr (Or.inr (Or.inl ⟨rfl, em5_46, rfl⟩))) (xR_n))) (fun _ _ H _ hd => zTo_5 H hd) (by decide +kernel)
theorem em6_0 : decode prog_3_method_5_code 0 = .ok (.aload_n 0, 1) := by decide +kernel
theorem em6_1 : decode prog_3_method_5_code 1 = .ok (.getfield 11, 3) := by decide +kernel
theorem em6_4 : decode prog_3_method_5_code 4 = .ok (.iconst 0, 1) := by decide +kernel
theorem em6_5 : decode prog_3_method_5_code 5 = .ok (.invokestatic 36, 3) := by decide +kernel
theorem em6_8 : decode prog_3_method_5_code 8 = .ok (.aload_n 0, 1) := by decide +kernel
theorem em6_9 : decode prog_3_method_5_code 9 = .ok (.iload_n 1, 1) := by decide +kernel
theorem em6_10 : decode prog_3_method_5_code 10 = .ok (.invokevirtual 22, 3) := by decide +kernel
theorem em6_13 : decode prog_3_method_5_code 13 = .ok (.aload_n 0, 1) := by decide +kernel
theorem em6_14 : decode prog_3_method_5_code 14 = .ok (.getfield 11, 3) := by decide +kernel
theorem em6_17 : decode prog_3_method_5_code 17 = .ok (.iconst 2, 1) := by decide +kernel
theorem em6_18 : decode prog_3_method_5_code 18 = .ok (.iload_n 2, 1) := by decide +kernel
theorem em6_19 : decode prog_3_method_5_code 19 = .ok (.iastore, 1) := by decide +kernel
theorem em6_20 : decode prog_3_method_5_code 20 = .ok (.iconst 0, 1) := by decide +kernel
theorem em6_21 : decode prog_3_method_5_code 21 = .ok (.bipush 99, 2) := by decide +kernel
theorem em6_23 : decode prog_3_method_5_code 23 = .ok (.aload_n 0, 1) := by decide +kernel
theorem em6_24 : decode prog_3_method_5_code 24 = .ok (.iconst 3, 1) := by decide +kernel
theorem em6_25 : decode prog_3_method_5_code 25 = .ok (.invokevirtual 32, 3) := by decide +kernel
theorem em6_28 : decode prog_3_method_5_code 28 = .ok (.invokestatic 42, 3) := by decide +kernel
theorem em6_31 : decode prog_3_method_5_code 31 = .ok (.invokestatic 48, 3) := by decide +kernel
theorem em6_34 : decode prog_3_method_5_code 34 = .ok (.ireturn, 1) := by decide +kernel
/-! CapitalCase$Judge.pays:(II)I -/
noncomputable def zTr_6 : Nat → Option aF := bn 17 (bn 8 (bn 4 (bn 1 (bl 0 (a_aload 0 1)) (bl 1 (a_getf zG0 zT0 1 1 4))) (bn 5 (bl 4 (a_const 0 5)) (bl 5 (a_inv zG0 zprot (true, false) zc_239 (zbd 239) (6, 0, 0) 2 8)))) (bn 10 (bn 9 (bl 8 (a_aload 0 9)) (bl 9 (a_iload 1 10))) (bn 13 (bl 10 (a_invV zG0 zprot (true, false) zc_5 (zbd 5) (6, 0, 0) 1 2 13)) (bn 14 (bl 13 (a_aload 0 14)) (bl 14 (a_getf zG0 zT0 1 1 17)))))) (bn 23 (bn 19 (bn 18 (bl 17 (a_const 2 18)) (bl 18 (a_iload 2 19))) (bn 20 (bl 19 (a_ast zG0 zT0 ts0 20)) (bn 21 (bl 20 (a_const 0 21)) (bl 21 (a_const 99 23))))) (bn 25 (bn 24 (bl 23 (a_aload 0 24)) (bl 24 (a_const 3 25))) (bn 28 (bl 25 (a_invV zG0 zprot (true, false) zc_3 (zbd 3) (6, 0, 0) 1 2 28)) (bn 31 (bl 28 (a_math fmin 31)) (bl 31 (a_math fmax 34))))))
set_option maxRecDepth 100000 in
set_option maxHeartbeats 4000000 in
theorem zTo_6 {pre : zPre} {post : zPost} (H : zTieC pre post) {d : Nat × Nat × Nat} (hd : zLe (6, 0, 0) d) : aTr zG0 zT0 zInv (true, false) PZ zbd pre post d prog_3_method_5_code "CapitalCase$Judge" zTr_6 := (xB_n (xB_n (xB_n (xB_n (xB_l ⟨_, zs_aload_n em6_0, as_aload⟩) (xB_l ⟨_, zs_getf (T := TX1) (M := 3) (ci := 1) (j := 1) em6_1 rfl inX1 (by decide) wd_423 ((congrFun xo_2 11).trans rfl), as_getf zTie⟩)) (xB_n (xB_l ⟨_, zs_iconst (v := 0) em6_4 (by decide +kernel), as_const (by decide +kernel)⟩) (xB_l ⟨_, zs_invS em6_5 zl_239 wd_875 wd_152 ((congrFun xo_2 36).trans rfl) xm_207, ag_inv H zh_239 hd (by decide)⟩))) (xB_n (xB_n (xB_l ⟨_, zs_aload_n em6_8, as_aload⟩) (xB_l ⟨_, zs_iload_n em6_9, as_iload⟩)) (xB_n (xB_l ⟨_, zs_invV (T := TX1) em6_10 zl_5 rfl wd_906 wd_908 wd_25 ((congrFun xo_2 22).trans rfl) xm_5, ag_invV H zh_5 hd (by decide)⟩) (xB_n (xB_l ⟨_, zs_aload_n em6_13, as_aload⟩) (xB_l ⟨_, zs_getf (T := TX1) (M := 3) (ci := 1) (j := 1) em6_14 rfl inX1 (by decide) wd_423 ((congrFun xo_2 11).trans rfl), as_getf zTie⟩))))) (xB_n (xB_n (xB_n (xB_l ⟨_, zs_iconst (v := 2) em6_17 (by decide +kernel), as_const (by decide +kernel)⟩) (xB_l ⟨_, zs_iload_n em6_18, as_iload⟩)) (xB_n (xB_l ⟨_, zs_iast zInj0 em6_19, as_iast zTie⟩) (xB_n (xB_l ⟨_, zs_iconst (v := 0) em6_20 (by decide +kernel), as_const (by decide +kernel)⟩) (xB_l ⟨_, zs_bipush (v := 99) em6_21 (by decide +kernel), as_const (by decide +kernel)⟩)))) (xB_n (xB_n (xB_l ⟨_, zs_aload_n em6_23, as_aload⟩) (xB_l ⟨_, zs_iconst (v := 3) em6_24 (by decide +kernel), as_const (by decide +kernel)⟩)) (xB_n (xB_l ⟨_, zs_invV (T := TX1) em6_25 zl_3 rfl wd_881 wd_883 wd_22 ((congrFun xo_2 32).trans rfl) xm_3, ag_invV H zh_3 hd (by decide)⟩) (xB_n (xB_l ⟨_, zs_min em6_28 wd_889 wd_716 wd_129 wz_min ((congrFun xo_2 42).trans rfl), as_math fmin_ok⟩) (xB_l ⟨_, zs_max em6_31 wd_885 wd_713 wd_129 wz_max ((congrFun xo_2 48).trans rfl), as_math fmax_ok⟩))))))
set_option maxRecDepth 100000 in
set_option maxHeartbeats 4000000 in
theorem zM_6 : zOKa 6 zc_6 := z_auto (cuts := []) (rets := [(34, 1)]) (fuel := 1000) rfl rfl (by decide) (xrt_ok (xR_c (Or.inl ⟨rfl, em6_34, rfl⟩) (xR_n))) (fun _ _ H _ hd => zTo_6 H hd) (by decide +kernel)
theorem em7_0 : decode prog_3_method_3_code 0 = .ok (.aload_n 0, 1) := by decide +kernel
theorem em7_1 : decode prog_3_method_3_code 1 = .ok (.iload 4, 2) := by decide +kernel
theorem em7_3 : decode prog_3_method_3_code 3 = .ok (.invokevirtual 22, 3) := by decide +kernel
theorem em7_6 : decode prog_3_method_3_code 6 = .ok (.aload_n 0, 1) := by decide +kernel
theorem em7_7 : decode prog_3_method_3_code 7 = .ok (.aload_n 1, 1) := by decide +kernel
theorem em7_8 : decode prog_3_method_3_code 8 = .ok (.iload_n 2, 1) := by decide +kernel
theorem em7_9 : decode prog_3_method_3_code 9 = .ok (.iload_n 3, 1) := by decide +kernel
theorem em7_10 : decode prog_3_method_3_code 10 = .ok (.invokevirtual 26, 3) := by decide +kernel
theorem em7_13 : decode prog_3_method_3_code 13 = .ok (.aload_n 0, 1) := by decide +kernel
theorem em7_14 : decode prog_3_method_3_code 14 = .ok (.iconst 1, 1) := by decide +kernel
theorem em7_15 : decode prog_3_method_3_code 15 = .ok (.invokevirtual 32, 3) := by decide +kernel
theorem em7_18 : decode prog_3_method_3_code 18 = .ok (.ireturn, 1) := by decide +kernel
/-! CapitalCase$Judge.rank:(LCapitalCase$Town;III)I -/
noncomputable def zTr_7 : Nat → Option aF := bn 8 (bn 3 (bn 1 (bl 0 (a_aload 0 1)) (bl 1 (a_iload 4 3))) (bn 6 (bl 3 (a_invV zG0 zprot (true, false) zc_5 (zbd 5) (6, 0, 0) 1 2 6)) (bn 7 (bl 6 (a_aload 0 7)) (bl 7 (a_aload 1 8))))) (bn 13 (bn 9 (bl 8 (a_iload 2 9)) (bn 10 (bl 9 (a_iload 3 10)) (bl 10 (a_invV zG0 zprot (true, false) zc_4 (zbd 4) (6, 0, 0) 1 4 13)))) (bn 14 (bl 13 (a_aload 0 14)) (bn 15 (bl 14 (a_const 1 15)) (bl 15 (a_invV zG0 zprot (true, false) zc_3 (zbd 3) (6, 0, 0) 1 2 18)))))
set_option maxRecDepth 100000 in
set_option maxHeartbeats 4000000 in
theorem zTo_7 {pre : zPre} {post : zPost} (H : zTieC pre post) {d : Nat × Nat × Nat} (hd : zLe (6, 0, 0) d) : aTr zG0 zT0 zInv (true, false) PZ zbd pre post d prog_3_method_3_code "CapitalCase$Judge" zTr_7 := (xB_n (xB_n (xB_n (xB_l ⟨_, zs_aload_n em7_0, as_aload⟩) (xB_l ⟨_, zs_iload em7_1, as_iload⟩)) (xB_n (xB_l ⟨_, zs_invV (T := TX1) em7_3 zl_5 rfl wd_906 wd_908 wd_25 ((congrFun xo_2 22).trans rfl) xm_5, ag_invV H zh_5 hd (by decide)⟩) (xB_n (xB_l ⟨_, zs_aload_n em7_6, as_aload⟩) (xB_l ⟨_, zs_aload_n em7_7, as_aload⟩)))) (xB_n (xB_n (xB_l ⟨_, zs_iload_n em7_8, as_iload⟩) (xB_n (xB_l ⟨_, zs_iload_n em7_9, as_iload⟩) (xB_l ⟨_, zs_invV (T := TX1) em7_10 zl_4 rfl wd_876 wd_878 wd_21 ((congrFun xo_2 26).trans rfl) xm_4, ag_invV H zh_4 hd (by decide)⟩))) (xB_n (xB_l ⟨_, zs_aload_n em7_13, as_aload⟩) (xB_n (xB_l ⟨_, zs_iconst (v := 1) em7_14 (by decide +kernel), as_const (by decide +kernel)⟩) (xB_l ⟨_, zs_invV (T := TX1) em7_15 zl_3 rfl wd_881 wd_883 wd_22 ((congrFun xo_2 32).trans rfl) xm_3, ag_invV H zh_3 hd (by decide)⟩)))))
set_option maxRecDepth 100000 in
set_option maxHeartbeats 4000000 in
theorem zM_7 : zOKa 7 zc_7 := z_auto (cuts := []) (rets := [(18, 1)]) (fuel := 1000) rfl rfl (by decide) (xrt_ok (xR_c (Or.inl ⟨rfl, em7_18, rfl⟩) (xR_n))) (fun _ _ H _ hd => zTo_7 H hd) (by decide +kernel)
theorem em8_0 : decode prog_3_method_4_code 0 = .ok (.aload_n 0, 1) := by decide +kernel
theorem em8_1 : decode prog_3_method_4_code 1 = .ok (.getfield 11, 3) := by decide +kernel
theorem em8_4 : decode prog_3_method_4_code 4 = .ok (.iconst 0, 1) := by decide +kernel
theorem em8_5 : decode prog_3_method_4_code 5 = .ok (.invokestatic 36, 3) := by decide +kernel
theorem em8_8 : decode prog_3_method_4_code 8 = .ok (.aload_n 0, 1) := by decide +kernel
theorem em8_9 : decode prog_3_method_4_code 9 = .ok (.aload_n 1, 1) := by decide +kernel
theorem em8_10 : decode prog_3_method_4_code 10 = .ok (.iload_n 2, 1) := by decide +kernel
theorem em8_11 : decode prog_3_method_4_code 11 = .ok (.iload_n 3, 1) := by decide +kernel
theorem em8_12 : decode prog_3_method_4_code 12 = .ok (.invokevirtual 26, 3) := by decide +kernel
theorem em8_15 : decode prog_3_method_4_code 15 = .ok (.iconst 0, 1) := by decide +kernel
theorem em8_16 : decode prog_3_method_4_code 16 = .ok (.bipush 9, 2) := by decide +kernel
theorem em8_18 : decode prog_3_method_4_code 18 = .ok (.aload_n 0, 1) := by decide +kernel
theorem em8_19 : decode prog_3_method_4_code 19 = .ok (.iconst 2, 1) := by decide +kernel
theorem em8_20 : decode prog_3_method_4_code 20 = .ok (.invokevirtual 32, 3) := by decide +kernel
theorem em8_23 : decode prog_3_method_4_code 23 = .ok (.invokestatic 42, 3) := by decide +kernel
theorem em8_26 : decode prog_3_method_4_code 26 = .ok (.invokestatic 48, 3) := by decide +kernel
theorem em8_29 : decode prog_3_method_4_code 29 = .ok (.ireturn, 1) := by decide +kernel
/-! CapitalCase$Judge.wears:(LCapitalCase$Town;II)I -/
noncomputable def zTr_8 : Nat → Option aF := bn 12 (bn 8 (bn 4 (bn 1 (bl 0 (a_aload 0 1)) (bl 1 (a_getf zG0 zT0 1 1 4))) (bn 5 (bl 4 (a_const 0 5)) (bl 5 (a_inv zG0 zprot (true, false) zc_239 (zbd 239) (6, 0, 0) 2 8)))) (bn 10 (bn 9 (bl 8 (a_aload 0 9)) (bl 9 (a_aload 1 10))) (bn 11 (bl 10 (a_iload 2 11)) (bl 11 (a_iload 3 12))))) (bn 19 (bn 16 (bn 15 (bl 12 (a_invV zG0 zprot (true, false) zc_4 (zbd 4) (6, 0, 0) 1 4 15)) (bl 15 (a_const 0 16))) (bn 18 (bl 16 (a_const 9 18)) (bl 18 (a_aload 0 19)))) (bn 23 (bn 20 (bl 19 (a_const 2 20)) (bl 20 (a_invV zG0 zprot (true, false) zc_3 (zbd 3) (6, 0, 0) 1 2 23))) (bn 26 (bl 23 (a_math fmin 26)) (bl 26 (a_math fmax 29)))))
set_option maxRecDepth 100000 in
set_option maxHeartbeats 4000000 in
theorem zTo_8 {pre : zPre} {post : zPost} (H : zTieC pre post) {d : Nat × Nat × Nat} (hd : zLe (6, 0, 0) d) : aTr zG0 zT0 zInv (true, false) PZ zbd pre post d prog_3_method_4_code "CapitalCase$Judge" zTr_8 := (xB_n (xB_n (xB_n (xB_n (xB_l ⟨_, zs_aload_n em8_0, as_aload⟩) (xB_l ⟨_, zs_getf (T := TX1) (M := 3) (ci := 1) (j := 1) em8_1 rfl inX1 (by decide) wd_423 ((congrFun xo_2 11).trans rfl), as_getf zTie⟩)) (xB_n (xB_l ⟨_, zs_iconst (v := 0) em8_4 (by decide +kernel), as_const (by decide +kernel)⟩) (xB_l ⟨_, zs_invS em8_5 zl_239 wd_875 wd_152 ((congrFun xo_2 36).trans rfl) xm_207, ag_inv H zh_239 hd (by decide)⟩))) (xB_n (xB_n (xB_l ⟨_, zs_aload_n em8_8, as_aload⟩) (xB_l ⟨_, zs_aload_n em8_9, as_aload⟩)) (xB_n (xB_l ⟨_, zs_iload_n em8_10, as_iload⟩) (xB_l ⟨_, zs_iload_n em8_11, as_iload⟩)))) (xB_n (xB_n (xB_n (xB_l ⟨_, zs_invV (T := TX1) em8_12 zl_4 rfl wd_876 wd_878 wd_21 ((congrFun xo_2 26).trans rfl) xm_4, ag_invV H zh_4 hd (by decide)⟩) (xB_l ⟨_, zs_iconst (v := 0) em8_15 (by decide +kernel), as_const (by decide +kernel)⟩)) (xB_n (xB_l ⟨_, zs_bipush (v := 9) em8_16 (by decide +kernel), as_const (by decide +kernel)⟩) (xB_l ⟨_, zs_aload_n em8_18, as_aload⟩))) (xB_n (xB_n (xB_l ⟨_, zs_iconst (v := 2) em8_19 (by decide +kernel), as_const (by decide +kernel)⟩) (xB_l ⟨_, zs_invV (T := TX1) em8_20 zl_3 rfl wd_881 wd_883 wd_22 ((congrFun xo_2 32).trans rfl) xm_3, ag_invV H zh_3 hd (by decide)⟩)) (xB_n (xB_l ⟨_, zs_min em8_23 wd_889 wd_716 wd_129 wz_min ((congrFun xo_2 42).trans rfl), as_math fmin_ok⟩) (xB_l ⟨_, zs_max em8_26 wd_885 wd_713 wd_129 wz_max ((congrFun xo_2 48).trans rfl), as_math fmax_ok⟩)))))
set_option maxRecDepth 100000 in
set_option maxHeartbeats 4000000 in
theorem zM_8 : zOKa 8 zc_8 := z_auto (cuts := []) (rets := [(29, 1)]) (fuel := 1000) rfl rfl (by decide) (xrt_ok (xR_c (Or.inl ⟨rfl, em8_29, rfl⟩) (xR_n))) (fun _ _ H _ hd => zTo_8 H hd) (by decide +kernel)
theorem em9_0 : decode prog_4_method_5_code 0 = .ok (.aload_n 0, 1) := by decide +kernel
theorem em9_1 : decode prog_4_method_5_code 1 = .ok (.invokevirtual 53, 3) := by decide +kernel
theorem em9_4 : decode prog_4_method_5_code 4 = .ok (.iload_n 1, 1) := by decide +kernel
theorem em9_5 : decode prog_4_method_5_code 5 = .ok (.if_icmp .eq 9, 3) := by decide +kernel
theorem em9_8 : decode prog_4_method_5_code 8 = .ok (.aload_n 0, 1) := by decide +kernel
theorem em9_9 : decode prog_4_method_5_code 9 = .ok (.iconst 1, 1) := by decide +kernel
theorem em9_10 : decode prog_4_method_5_code 10 = .ok (.invokevirtual 70, 3) := by decide +kernel
theorem em9_13 : decode prog_4_method_5_code 13 = .ok (.ireturn, 1) := by decide +kernel
theorem em9_14 : decode prog_4_method_5_code 14 = .ok (.aload_n 0, 1) := by decide +kernel
theorem em9_15 : decode prog_4_method_5_code 15 = .ok (.getfield 40, 3) := by decide +kernel
theorem em9_18 : decode prog_4_method_5_code 18 = .ok (.sipush 400, 3) := by decide +kernel
theorem em9_21 : decode prog_4_method_5_code 21 = .ok (.if_icmp .lt 9, 3) := by decide +kernel
theorem em9_24 : decode prog_4_method_5_code 24 = .ok (.aload_n 0, 1) := by decide +kernel
theorem em9_25 : decode prog_4_method_5_code 25 = .ok (.iconst 2, 1) := by decide +kernel
theorem em9_26 : decode prog_4_method_5_code 26 = .ok (.invokevirtual 70, 3) := by decide +kernel
theorem em9_29 : decode prog_4_method_5_code 29 = .ok (.ireturn, 1) := by decide +kernel
theorem em9_30 : decode prog_4_method_5_code 30 = .ok (.aload_n 0, 1) := by decide +kernel
theorem em9_31 : decode prog_4_method_5_code 31 = .ok (.dup, 1) := by decide +kernel
theorem em9_32 : decode prog_4_method_5_code 32 = .ok (.getfield 40, 3) := by decide +kernel
theorem em9_35 : decode prog_4_method_5_code 35 = .ok (.iconst 1, 1) := by decide +kernel
theorem em9_36 : decode prog_4_method_5_code 36 = .ok (.iadd, 1) := by decide +kernel
theorem em9_37 : decode prog_4_method_5_code 37 = .ok (.putfield 40, 3) := by decide +kernel
theorem em9_40 : decode prog_4_method_5_code 40 = .ok (.iconst 1, 1) := by decide +kernel
theorem em9_41 : decode prog_4_method_5_code 41 = .ok (.ireturn, 1) := by decide +kernel
/-! CapitalCase$Parser.accept:(I)Z -/
noncomputable def zTr_9 : Nat → Option aF := bn 21 (bn 9 (bn 4 (bn 1 (bl 0 (a_aload 0 1)) (bl 1 (a_invV zG0 zprot (true, false) zc_13 (zbd 13) (1, 0, 0) 2 1 4))) (bn 5 (bl 4 (a_iload 1 5)) (bn 8 (bl 5 (a_icmp 0 14 8)) (bl 8 (a_aload 0 9))))) (bn 14 (bn 10 (bl 9 (a_const 1 10)) (bl 10 (a_invV zG0 zprot (true, false) zc_10 (zbd 10) (1, 0, 0) 2 2 13))) (bn 15 (bl 14 (a_aload 0 15)) (bn 18 (bl 15 (a_getf zG0 zT0 2 3 18)) (bl 18 (a_const 400 21)))))) (bn 31 (bn 25 (bn 24 (bl 21 (a_icmp 2 30 24)) (bl 24 (a_aload 0 25))) (bn 26 (bl 25 (a_const 2 26)) (bn 30 (bl 26 (a_invV zG0 zprot (true, false) zc_10 (zbd 10) (1, 0, 0) 2 2 29)) (bl 30 (a_aload 0 31))))) (bn 36 (bn 32 (bl 31 (a_dup 32)) (bn 35 (bl 32 (a_getf zG0 zT0 2 3 35)) (bl 35 (a_const 1 36)))) (bn 37 (bl 36 (a_bin fadd 37)) (bn 40 (bl 37 (a_puti zG0 zT0 zprot 2 3 0 40)) (bl 40 (a_const 1 41))))))
set_option maxRecDepth 100000 in
set_option maxHeartbeats 4000000 in
theorem zTo_9 {pre : zPre} {post : zPost} (H : zTieC pre post) {d : Nat × Nat × Nat} (hd : zLe (1, 0, 0) d) : aTr zG0 zT0 zInv (true, false) PZ zbd pre post d prog_4_method_5_code "CapitalCase$Parser" zTr_9 := (xB_n (xB_n (xB_n (xB_n (xB_l ⟨_, zs_aload_n em9_0, as_aload⟩) (xB_l ⟨_, zs_invV (T := TX2) em9_1 zl_13 rfl wd_756 wd_758 wd_2 ((congrFun xo_3 53).trans rfl) xm_13, ag_invV H zh_13 hd (by decide)⟩)) (xB_n (xB_l ⟨_, zs_iload_n em9_4, as_iload⟩) (xB_n (xB_l ⟨_, zs_icmpeq em9_5 (t := 14) (by decide), as_icmp⟩) (xB_l ⟨_, zs_aload_n em9_8, as_aload⟩)))) (xB_n (xB_n (xB_l ⟨_, zs_iconst (v := 1) em9_9 (by decide +kernel), as_const (by decide +kernel)⟩) (xB_l ⟨_, zs_invV (T := TX2) em9_10 zl_10 rfl wd_764 wd_766 wd_4 ((congrFun xo_3 70).trans rfl) xm_10, ag_invV H zh_10 hd (by decide)⟩)) (xB_n (xB_l ⟨_, zs_aload_n em9_14, as_aload⟩) (xB_n (xB_l ⟨_, zs_getf (T := TX2) (M := 10) (ci := 2) (j := 3) em9_15 rfl inX2 (by decide) wd_285 ((congrFun xo_3 40).trans rfl), as_getf zTie⟩) (xB_l ⟨_, zs_sipush (v := 400) em9_18 (by decide +kernel), as_const (by decide +kernel)⟩))))) (xB_n (xB_n (xB_n (xB_l ⟨_, zs_icmplt em9_21 (t := 30) (by decide), as_icmp⟩) (xB_l ⟨_, zs_aload_n em9_24, as_aload⟩)) (xB_n (xB_l ⟨_, zs_iconst (v := 2) em9_25 (by decide +kernel), as_const (by decide +kernel)⟩) (xB_n (xB_l ⟨_, zs_invV (T := TX2) em9_26 zl_10 rfl wd_764 wd_766 wd_4 ((congrFun xo_3 70).trans rfl) xm_10, ag_invV H zh_10 hd (by decide)⟩) (xB_l ⟨_, zs_aload_n em9_30, as_aload⟩)))) (xB_n (xB_n (xB_l ⟨_, zs_dup em9_31, as_dup⟩) (xB_n (xB_l ⟨_, zs_getf (T := TX2) (M := 10) (ci := 2) (j := 3) em9_32 rfl inX2 (by decide) wd_285 ((congrFun xo_3 40).trans rfl), as_getf zTie⟩) (xB_l ⟨_, zs_iconst (v := 1) em9_35 (by decide +kernel), as_const (by decide +kernel)⟩))) (xB_n (xB_l ⟨_, zs_iadd em9_36, as_bin fadd_ok⟩) (xB_n (xB_l ⟨_, zs_puti zInj0 (T := TX2) (M := 10) (ty := tyX2) (ci := 2) (j := 3) (kd := 0) em9_37 rfl inX2 tyX2_ok nmX2 (by decide) wd_285 (Or.inl ⟨rfl, rfl⟩) rfl ((congrFun xo_3 40).trans rfl), ag_puti0⟩) (xB_l ⟨_, zs_iconst (v := 1) em9_40 (by decide +kernel), as_const (by decide +kernel)⟩))))))
set_option maxRecDepth 100000 in
set_option maxHeartbeats 4000000 in
theorem zM_9 : zOKa 9 zc_9 := z_auto (cuts := []) (rets := [(13, 2), (29, 2), (41, 2)]) (fuel := 1000) rfl rfl (by decide) (xrt_ok (xR_c (Or.inr (Or.inl ⟨rfl, em9_13, rfl⟩)) (xR_c (Or.inr (Or.inl ⟨rfl, em9_29, rfl⟩)) (xR_c (Or.inr (Or.inl ⟨rfl, em9_41, rfl⟩)) (xR_n))))) (fun _ _ H _ hd => zTo_9 H hd) (by decide +kernel)
theorem em10_0 : decode prog_4_method_4_code 0 = .ok (.aload_n 0, 1) := by decide +kernel
theorem em10_1 : decode prog_4_method_4_code 1 = .ok (.iload_n 1, 1) := by decide +kernel
theorem em10_2 : decode prog_4_method_4_code 2 = .ok (.putfield 44, 3) := by decide +kernel
theorem em10_5 : decode prog_4_method_4_code 5 = .ok (.aload_n 0, 1) := by decide +kernel
theorem em10_6 : decode prog_4_method_4_code 6 = .ok (.aload_n 0, 1) := by decide +kernel
theorem em10_7 : decode prog_4_method_4_code 7 = .ok (.getfield 40, 3) := by decide +kernel
theorem em10_10 : decode prog_4_method_4_code 10 = .ok (.sipush 400, 3) := by decide +kernel
theorem em10_13 : decode prog_4_method_4_code 13 = .ok (.if_icmp .gt 18, 3) := by decide +kernel
theorem em10_16 : decode prog_4_method_4_code 16 = .ok (.aload_n 0, 1) := by decide +kernel
theorem em10_17 : decode prog_4_method_4_code 17 = .ok (.getfield 21, 3) := by decide +kernel
theorem em10_20 : decode prog_4_method_4_code 20 = .ok (.getfield 83, 3) := by decide +kernel
theorem em10_23 : decode prog_4_method_4_code 23 = .ok (.aload_n 0, 1) := by decide +kernel
theorem em10_24 : decode prog_4_method_4_code 24 = .ok (.getfield 40, 3) := by decide +kernel
theorem em10_27 : decode prog_4_method_4_code 27 = .ok (.iaload, 1) := by decide +kernel
theorem em10_28 : decode prog_4_method_4_code 28 = .ok (.goto 4, 3) := by decide +kernel
theorem em10_31 : decode prog_4_method_4_code 31 = .ok (.iconst 0, 1) := by decide +kernel
theorem em10_32 : decode prog_4_method_4_code 32 = .ok (.putfield 77, 3) := by decide +kernel
theorem em10_35 : decode prog_4_method_4_code 35 = .ok (.iconst 0, 1) := by decide +kernel
theorem em10_36 : decode prog_4_method_4_code 36 = .ok (.ireturn, 1) := by decide +kernel
/-! CapitalCase$Parser.fail:(I)Z -/
noncomputable def zTr_10 : Nat → Option aF := bn 17 (bn 6 (bn 2 (bn 1 (bl 0 (a_aload 0 1)) (bl 1 (a_iload 1 2))) (bn 5 (bl 2 (a_puti zG0 zT0 zprot 2 4 0 5)) (bl 5 (a_aload 0 6)))) (bn 10 (bn 7 (bl 6 (a_aload 0 7)) (bl 7 (a_getf zG0 zT0 2 3 10))) (bn 13 (bl 10 (a_const 400 13)) (bn 16 (bl 13 (a_icmp 4 31 16)) (bl 16 (a_aload 0 17)))))) (bn 27 (bn 23 (bn 20 (bl 17 (a_getf zG0 zT0 2 1 20)) (bl 20 (a_getf zG0 zT0 7 1 23))) (bn 24 (bl 23 (a_aload 0 24)) (bl 24 (a_getf zG0 zT0 2 3 27)))) (bn 31 (bn 28 (bl 27 (a_ald zG0 zT0 (true, false) ts0 28)) (bl 28 (a_goto 32))) (bn 32 (bl 31 (a_const 0 32)) (bn 35 (bl 32 (a_puti zG0 zT0 zprot 2 5 0 35)) (bl 35 (a_const 0 36))))))
set_option maxRecDepth 100000 in
set_option maxHeartbeats 4000000 in
theorem zTo_10 {pre : zPre} {post : zPost} (H : zTieC pre post) {d : Nat × Nat × Nat} (hd : zLe (0, 0, 0) d) : aTr zG0 zT0 zInv (true, false) PZ zbd pre post d prog_4_method_4_code "CapitalCase$Parser" zTr_10 := (xB_n (xB_n (xB_n (xB_n (xB_l ⟨_, zs_aload_n em10_0, as_aload⟩) (xB_l ⟨_, zs_iload_n em10_1, as_iload⟩)) (xB_n (xB_l ⟨_, zs_puti zInj0 (T := TX2) (M := 10) (ty := tyX2) (ci := 2) (j := 4) (kd := 0) em10_2 rfl inX2 tyX2_ok nmX2 (by decide) wd_286 (Or.inl ⟨rfl, rfl⟩) rfl ((congrFun xo_3 44).trans rfl), ag_puti0⟩) (xB_l ⟨_, zs_aload_n em10_5, as_aload⟩))) (xB_n (xB_n (xB_l ⟨_, zs_aload_n em10_6, as_aload⟩) (xB_l ⟨_, zs_getf (T := TX2) (M := 10) (ci := 2) (j := 3) em10_7 rfl inX2 (by decide) wd_285 ((congrFun xo_3 40).trans rfl), as_getf zTie⟩)) (xB_n (xB_l ⟨_, zs_sipush (v := 400) em10_10 (by decide +kernel), as_const (by decide +kernel)⟩) (xB_n (xB_l ⟨_, zs_icmpgt em10_13 (t := 31) (by decide), as_icmp⟩) (xB_l ⟨_, zs_aload_n em10_16, as_aload⟩))))) (xB_n (xB_n (xB_n (xB_l ⟨_, zs_getf (T := TX2) (M := 10) (ci := 2) (j := 1) em10_17 rfl inX2 (by decide) wd_283 ((congrFun xo_3 21).trans rfl), as_getf zTie⟩) (xB_l ⟨_, zs_getf (T := TX7) (M := 3) (ci := 7) (j := 1) em10_20 rfl inX7 (by decide) wd_271 ((congrFun xo_3 83).trans rfl), as_getf zTie⟩)) (xB_n (xB_l ⟨_, zs_aload_n em10_23, as_aload⟩) (xB_l ⟨_, zs_getf (T := TX2) (M := 10) (ci := 2) (j := 3) em10_24 rfl inX2 (by decide) wd_285 ((congrFun xo_3 40).trans rfl), as_getf zTie⟩))) (xB_n (xB_n (xB_l ⟨_, zs_iald em10_27, ag_iald⟩) (xB_l ⟨_, zs_goto em10_28 (t := 32) (by decide), as_goto⟩)) (xB_n (xB_l ⟨_, zs_iconst (v := 0) em10_31 (by decide +kernel), as_const (by decide +kernel)⟩) (xB_n (xB_l ⟨_, zs_puti zInj0 (T := TX2) (M := 10) (ty := tyX2) (ci := 2) (j := 5) (kd := 0) em10_32 rfl inX2 tyX2_ok nmX2 (by decide) wd_287 (Or.inl ⟨rfl, rfl⟩) rfl ((congrFun xo_3 77).trans rfl), ag_puti0⟩) (xB_l ⟨_, zs_iconst (v := 0) em10_35 (by decide +kernel), as_const (by decide +kernel)⟩))))))
set_option maxRecDepth 100000 in
set_option maxHeartbeats 4000000 in
theorem zM_10 : zOKa 10 zc_10 := z_auto (cuts := []) (rets := [(36, 2)]) (fuel := 1000) rfl rfl (by decide) (xrt_ok (xR_c (Or.inr (Or.inl ⟨rfl, em10_36, rfl⟩)) (xR_n))) (fun _ _ H _ hd => zTo_10 H hd) (by decide +kernel)
theorem em13_0 : decode prog_4_method_3_code 0 = .ok (.aload_n 0, 1) := by decide +kernel
theorem em13_1 : decode prog_4_method_3_code 1 = .ok (.getfield 40, 3) := by decide +kernel
theorem em13_4 : decode prog_4_method_3_code 4 = .ok (.sipush 400, 3) := by decide +kernel
theorem em13_7 : decode prog_4_method_3_code 7 = .ok (.if_icmp .gt 18, 3) := by decide +kernel
theorem em13_10 : decode prog_4_method_3_code 10 = .ok (.aload_n 0, 1) := by decide +kernel
theorem em13_11 : decode prog_4_method_3_code 11 = .ok (.getfield 21, 3) := by decide +kernel
theorem em13_14 : decode prog_4_method_3_code 14 = .ok (.getfield 80, 3) := by decide +kernel
theorem em13_17 : decode prog_4_method_3_code 17 = .ok (.aload_n 0, 1) := by decide +kernel
theorem em13_18 : decode prog_4_method_3_code 18 = .ok (.getfield 40, 3) := by decide +kernel
theorem em13_21 : decode prog_4_method_3_code 21 = .ok (.iaload, 1) := by decide +kernel
theorem em13_22 : decode prog_4_method_3_code 22 = .ok (.goto 4, 3) := by decide +kernel
theorem em13_25 : decode prog_4_method_3_code 25 = .ok (.iconst 0, 1) := by decide +kernel
theorem em13_26 : decode prog_4_method_3_code 26 = .ok (.ireturn, 1) := by decide +kernel
/-! CapitalCase$Parser.next:()I -/
noncomputable def zTr_13 : Nat → Option aF := bn 14 (bn 7 (bn 1 (bl 0 (a_aload 0 1)) (bn 4 (bl 1 (a_getf zG0 zT0 2 3 4)) (bl 4 (a_const 400 7)))) (bn 10 (bl 7 (a_icmp 4 25 10)) (bn 11 (bl 10 (a_aload 0 11)) (bl 11 (a_getf zG0 zT0 2 1 14))))) (bn 21 (bn 17 (bl 14 (a_getf zG0 zT0 7 0 17)) (bn 18 (bl 17 (a_aload 0 18)) (bl 18 (a_getf zG0 zT0 2 3 21)))) (bn 22 (bl 21 (a_ald zG0 zT0 (true, false) ts0 22)) (bn 25 (bl 22 (a_goto 26)) (bl 25 (a_const 0 26)))))
set_option maxRecDepth 100000 in
set_option maxHeartbeats 4000000 in
theorem zTo_13 {pre : zPre} {post : zPost} (H : zTieC pre post) {d : Nat × Nat × Nat} (hd : zLe (0, 0, 0) d) : aTr zG0 zT0 zInv (true, false) PZ zbd pre post d prog_4_method_3_code "CapitalCase$Parser" zTr_13 := (xB_n (xB_n (xB_n (xB_l ⟨_, zs_aload_n em13_0, as_aload⟩) (xB_n (xB_l ⟨_, zs_getf (T := TX2) (M := 10) (ci := 2) (j := 3) em13_1 rfl inX2 (by decide) wd_285 ((congrFun xo_3 40).trans rfl), as_getf zTie⟩) (xB_l ⟨_, zs_sipush (v := 400) em13_4 (by decide +kernel), as_const (by decide +kernel)⟩))) (xB_n (xB_l ⟨_, zs_icmpgt em13_7 (t := 25) (by decide), as_icmp⟩) (xB_n (xB_l ⟨_, zs_aload_n em13_10, as_aload⟩) (xB_l ⟨_, zs_getf (T := TX2) (M := 10) (ci := 2) (j := 1) em13_11 rfl inX2 (by decide) wd_283 ((congrFun xo_3 21).trans rfl), as_getf zTie⟩)))) (xB_n (xB_n (xB_l ⟨_, zs_getf (T := TX7) (M := 3) (ci := 7) (j := 0) em13_14 rfl inX7 (by decide) wd_269 ((congrFun xo_3 80).trans rfl), as_getf zTie⟩) (xB_n (xB_l ⟨_, zs_aload_n em13_17, as_aload⟩) (xB_l ⟨_, zs_getf (T := TX2) (M := 10) (ci := 2) (j := 3) em13_18 rfl inX2 (by decide) wd_285 ((congrFun xo_3 40).trans rfl), as_getf zTie⟩))) (xB_n (xB_l ⟨_, zs_iald em13_21, ag_iald⟩) (xB_n (xB_l ⟨_, zs_goto em13_22 (t := 26) (by decide), as_goto⟩) (xB_l ⟨_, zs_iconst (v := 0) em13_25 (by decide +kernel), as_const (by decide +kernel)⟩)))))
set_option maxRecDepth 100000 in
set_option maxHeartbeats 4000000 in
theorem zM_13 : zOKa 13 zc_13 := z_auto (cuts := []) (rets := [(26, 1)]) (fuel := 1000) rfl rfl (by decide) (xrt_ok (xR_c (Or.inl ⟨rfl, em13_26, rfl⟩) (xR_n))) (fun _ _ H _ hd => zTo_13 H hd) (by decide +kernel)
theorem em14_0 : decode prog_4_method_6_code 0 = .ok (.iload_n 1, 1) := by decide +kernel
theorem em14_1 : decode prog_4_method_6_code 1 = .ok (.ifCond .eq 28, 3) := by decide +kernel
theorem em14_4 : decode prog_4_method_6_code 4 = .ok (.aload_n 0, 1) := by decide +kernel
theorem em14_5 : decode prog_4_method_6_code 5 = .ok (.getfield 47, 3) := by decide +kernel
theorem em14_8 : decode prog_4_method_6_code 8 = .ok (.ifCond .ne 21, 3) := by decide +kernel
theorem em14_11 : decode prog_4_method_6_code 11 = .ok (.aload_n 0, 1) := by decide +kernel
theorem em14_12 : decode prog_4_method_6_code 12 = .ok (.iload_n 2, 1) := by decide +kernel
theorem em14_13 : decode prog_4_method_6_code 13 = .ok (.putfield 47, 3) := by decide +kernel
theorem em14_16 : decode prog_4_method_6_code 16 = .ok (.aload_n 0, 1) := by decide +kernel
theorem em14_17 : decode prog_4_method_6_code 17 = .ok (.aload_n 0, 1) := by decide +kernel
theorem em14_18 : decode prog_4_method_6_code 18 = .ok (.getfield 21, 3) := by decide +kernel
theorem em14_21 : decode prog_4_method_6_code 21 = .ok (.getfield 83, 3) := by decide +kernel
theorem em14_24 : decode prog_4_method_6_code 24 = .ok (.iload_n 3, 1) := by decide +kernel
theorem em14_25 : decode prog_4_method_6_code 25 = .ok (.iaload, 1) := by decide +kernel
theorem em14_26 : decode prog_4_method_6_code 26 = .ok (.putfield 74, 3) := by decide +kernel
theorem em14_29 : decode prog_4_method_6_code 29 = .ok (.return_, 1) := by decide +kernel
/-! CapitalCase$Parser.noteLater:(ZII)V -/
noncomputable def zTr_14 : Nat → Option aF := bn 13 (bn 5 (bn 1 (bl 0 (a_iload 1 1)) (bn 4 (bl 1 (a_if 0 29 4)) (bl 4 (a_aload 0 5)))) (bn 11 (bn 8 (bl 5 (a_getf zG0 zT0 2 6 8)) (bl 8 (a_if 1 29 11))) (bn 12 (bl 11 (a_aload 0 12)) (bl 12 (a_iload 2 13))))) (bn 21 (bn 17 (bn 16 (bl 13 (a_puti zG0 zT0 zprot 2 6 0 16)) (bl 16 (a_aload 0 17))) (bn 18 (bl 17 (a_aload 0 18)) (bl 18 (a_getf zG0 zT0 2 1 21)))) (bn 25 (bn 24 (bl 21 (a_getf zG0 zT0 7 1 24)) (bl 24 (a_iload 3 25))) (bn 26 (bl 25 (a_ald zG0 zT0 (true, false) ts0 26)) (bl 26 (a_puti zG0 zT0 zprot 2 7 0 29)))))
set_option maxRecDepth 100000 in
set_option maxHeartbeats 4000000 in
theorem zTo_14 {pre : zPre} {post : zPost} (H : zTieC pre post) {d : Nat × Nat × Nat} (hd : zLe (0, 0, 0) d) : aTr zG0 zT0 zInv (true, false) PZ zbd pre post d prog_4_method_6_code "CapitalCase$Parser" zTr_14 := (xB_n (xB_n (xB_n (xB_l ⟨_, zs_iload_n em14_0, as_iload⟩) (xB_n (xB_l ⟨_, zs_ifeq em14_1 (t := 29) (by decide), as_if⟩) (xB_l ⟨_, zs_aload_n em14_4, as_aload⟩))) (xB_n (xB_n (xB_l ⟨_, zs_getf (T := TX2) (M := 10) (ci := 2) (j := 6) em14_5 rfl inX2 (by decide) wd_289 ((congrFun xo_3 47).trans rfl), as_getf zTie⟩) (xB_l ⟨_, zs_ifne em14_8 (t := 29) (by decide), as_if⟩)) (xB_n (xB_l ⟨_, zs_aload_n em14_11, as_aload⟩) (xB_l ⟨_, zs_iload_n em14_12, as_iload⟩)))) (xB_n (xB_n (xB_n (xB_l ⟨_, zs_puti zInj0 (T := TX2) (M := 10) (ty := tyX2) (ci := 2) (j := 6) (kd := 0) em14_13 rfl inX2 tyX2_ok nmX2 (by decide) wd_289 (Or.inl ⟨rfl, rfl⟩) rfl ((congrFun xo_3 47).trans rfl), ag_puti0⟩) (xB_l ⟨_, zs_aload_n em14_16, as_aload⟩)) (xB_n (xB_l ⟨_, zs_aload_n em14_17, as_aload⟩) (xB_l ⟨_, zs_getf (T := TX2) (M := 10) (ci := 2) (j := 1) em14_18 rfl inX2 (by decide) wd_283 ((congrFun xo_3 21).trans rfl), as_getf zTie⟩))) (xB_n (xB_n (xB_l ⟨_, zs_getf (T := TX7) (M := 3) (ci := 7) (j := 1) em14_21 rfl inX7 (by decide) wd_271 ((congrFun xo_3 83).trans rfl), as_getf zTie⟩) (xB_l ⟨_, zs_iload_n em14_24, as_iload⟩)) (xB_n (xB_l ⟨_, zs_iald em14_25, ag_iald⟩) (xB_l ⟨_, zs_puti zInj0 (T := TX2) (M := 10) (ty := tyX2) (ci := 2) (j := 7) (kd := 0) em14_26 rfl inX2 tyX2_ok nmX2 (by decide) wd_290 (Or.inl ⟨rfl, rfl⟩) rfl ((congrFun xo_3 74).trans rfl), ag_puti0⟩)))))
set_option maxRecDepth 100000 in
set_option maxHeartbeats 4000000 in
theorem zM_14 : zOKa 14 zc_14 := z_auto (cuts := []) (rets := [(29, 3)]) (fuel := 1000) rfl rfl (by decide) (xrt_ok (xR_c (Or.inr (Or.inr (Or.inl ⟨rfl, em14_29, rfl⟩))) (xR_n))) (fun _ _ H _ hd => zTo_14 H hd) (by decide +kernel)
theorem em15_0 : decode prog_4_method_10_code 0 = .ok (.iconst 0, 1) := by decide +kernel
theorem em15_1 : decode prog_4_method_10_code 1 = .ok (.istore_n 2, 1) := by decide +kernel
theorem em15_2 : decode prog_4_method_10_code 2 = .ok (.iload_n 2, 1) := by decide +kernel
theorem em15_3 : decode prog_4_method_10_code 3 = .ok (.aload_n 0, 1) := by decide +kernel
theorem em15_4 : decode prog_4_method_10_code 4 = .ok (.getfield 50, 3) := by decide +kernel
theorem em15_7 : decode prog_4_method_10_code 7 = .ok (.if_icmp .ge 26, 3) := by decide +kernel
theorem em15_10 : decode prog_4_method_10_code 10 = .ok (.aload_n 0, 1) := by decide +kernel
theorem em15_11 : decode prog_4_method_10_code 11 = .ok (.aload_n 0, 1) := by decide +kernel
theorem em15_12 : decode prog_4_method_10_code 12 = .ok (.aload_n 0, 1) := by decide +kernel
theorem em15_13 : decode prog_4_method_10_code 13 = .ok (.getfield 25, 3) := by decide +kernel
theorem em15_16 : decode prog_4_method_10_code 16 = .ok (.iload_n 2, 1) := by decide +kernel
theorem em15_17 : decode prog_4_method_10_code 17 = .ok (.iaload, 1) := by decide +kernel
theorem em15_18 : decode prog_4_method_10_code 18 = .ok (.iload_n 1, 1) := by decide +kernel
theorem em15_19 : decode prog_4_method_10_code 19 = .ok (.invokevirtual 143, 3) := by decide +kernel
theorem em15_22 : decode prog_4_method_10_code 22 = .ok (.iconst 3, 1) := by decide +kernel
theorem em15_23 : decode prog_4_method_10_code 23 = .ok (.iload_n 1, 1) := by decide +kernel
theorem em15_24 : decode prog_4_method_10_code 24 = .ok (.invokevirtual 98, 3) := by decide +kernel
theorem em15_27 : decode prog_4_method_10_code 27 = .ok (.iinc 2 1, 3) := by decide +kernel
theorem em15_30 : decode prog_4_method_10_code 30 = .ok (.goto (-28), 3) := by decide +kernel
theorem em15_33 : decode prog_4_method_10_code 33 = .ok (.aload_n 0, 1) := by decide +kernel
theorem em15_34 : decode prog_4_method_10_code 34 = .ok (.getfield 50, 3) := by decide +kernel
theorem em15_37 : decode prog_4_method_10_code 37 = .ok (.aload_n 0, 1) := by decide +kernel
theorem em15_38 : decode prog_4_method_10_code 38 = .ok (.getfield 25, 3) := by decide +kernel
theorem em15_41 : decode prog_4_method_10_code 41 = .ok (.arraylength, 1) := by decide +kernel
theorem em15_42 : decode prog_4_method_10_code 42 = .ok (.if_icmp .ge 23, 3) := by decide +kernel
theorem em15_45 : decode prog_4_method_10_code 45 = .ok (.aload_n 0, 1) := by decide +kernel
theorem em15_46 : decode prog_4_method_10_code 46 = .ok (.getfield 25, 3) := by decide +kernel
theorem em15_49 : decode prog_4_method_10_code 49 = .ok (.aload_n 0, 1) := by decide +kernel
theorem em15_50 : decode prog_4_method_10_code 50 = .ok (.getfield 50, 3) := by decide +kernel
theorem em15_53 : decode prog_4_method_10_code 53 = .ok (.iload_n 1, 1) := by decide +kernel
theorem em15_54 : decode prog_4_method_10_code 54 = .ok (.iastore, 1) := by decide +kernel
theorem em15_55 : decode prog_4_method_10_code 55 = .ok (.aload_n 0, 1) := by decide +kernel
theorem em15_56 : decode prog_4_method_10_code 56 = .ok (.dup, 1) := by decide +kernel
theorem em15_57 : decode prog_4_method_10_code 57 = .ok (.getfield 50, 3) := by decide +kernel
theorem em15_60 : decode prog_4_method_10_code 60 = .ok (.iconst 1, 1) := by decide +kernel
theorem em15_61 : decode prog_4_method_10_code 61 = .ok (.iadd, 1) := by decide +kernel
theorem em15_62 : decode prog_4_method_10_code 62 = .ok (.putfield 50, 3) := by decide +kernel
theorem em15_65 : decode prog_4_method_10_code 65 = .ok (.return_, 1) := by decide +kernel
/-! CapitalCase$Parser.noteName:(I)V -/
noncomputable def zTr_15 : Nat → Option aF := bn 30 (bn 13 (bn 4 (bn 2 (bn 1 (bl 0 (a_const 0 1)) (bl 1 (a_istore 2 2))) (bn 3 (bl 2 (a_iload 2 3)) (bl 3 (a_aload 0 4)))) (bn 10 (bn 7 (bl 4 (a_getf zG0 zT0 2 9 7)) (bl 7 (a_icmp 3 33 10))) (bn 11 (bl 10 (a_aload 0 11)) (bn 12 (bl 11 (a_aload 0 12)) (bl 12 (a_aload 0 13)))))) (bn 19 (bn 17 (bn 16 (bl 13 (a_getf zG0 zT0 2 8 16)) (bl 16 (a_iload 2 17))) (bn 18 (bl 17 (a_ald zG0 zT0 (true, false) ts0 18)) (bl 18 (a_iload 1 19)))) (bn 23 (bn 22 (bl 19 (a_invV zG0 zprot (true, false) zc_12 (zbd 12) (6, 0, 0) 2 3 22)) (bl 22 (a_const 3 23))) (bn 24 (bl 23 (a_iload 1 24)) (bn 27 (bl 24 (a_invV zG0 zprot (true, false) zc_14 (zbd 14) (6, 0, 0) 2 4 27)) (bl 27 (a_iinc 2 1 30))))))) (bn 49 (bn 38 (bn 34 (bn 33 (bl 30 (a_goto 2)) (bl 33 (a_aload 0 34))) (bn 37 (bl 34 (a_getf zG0 zT0 2 9 37)) (bl 37 (a_aload 0 38)))) (bn 42 (bn 41 (bl 38 (a_getf zG0 zT0 2 8 41)) (bl 41 (a_alen zG0 42))) (bn 45 (bl 42 (a_icmp 3 65 45)) (bn 46 (bl 45 (a_aload 0 46)) (bl 46 (a_getf zG0 zT0 2 8 49)))))) (bn 56 (bn 53 (bn 50 (bl 49 (a_aload 0 50)) (bl 50 (a_getf zG0 zT0 2 9 53))) (bn 54 (bl 53 (a_iload 1 54)) (bn 55 (bl 54 (a_ast zG0 zT0 ts0 55)) (bl 55 (a_aload 0 56))))) (bn 60 (bn 57 (bl 56 (a_dup 57)) (bl 57 (a_getf zG0 zT0 2 9 60))) (bn 61 (bl 60 (a_const 1 61)) (bn 62 (bl 61 (a_bin fadd 62)) (bl 62 (a_puti zG0 zT0 zprot 2 9 0 65)))))))
set_option maxRecDepth 100000 in
set_option maxHeartbeats 4000000 in
theorem zTo_15 {pre : zPre} {post : zPost} (H : zTieC pre post) {d : Nat × Nat × Nat} (hd : zLe (6, 0, 0) d) : aTr zG0 zT0 zInv (true, false) PZ zbd pre post d prog_4_method_10_code "CapitalCase$Parser" zTr_15 := (xB_n (xB_n (xB_n (xB_n (xB_n (xB_l ⟨_, zs_iconst (v := 0) em15_0 (by decide +kernel), as_const (by decide +kernel)⟩) (xB_l ⟨_, zs_istore_n em15_1, as_istore⟩)) (xB_n (xB_l ⟨_, zs_iload_n em15_2, as_iload⟩) (xB_l ⟨_, zs_aload_n em15_3, as_aload⟩))) (xB_n (xB_n (xB_l ⟨_, zs_getf (T := TX2) (M := 10) (ci := 2) (j := 9) em15_4 rfl inX2 (by decide) wd_292 ((congrFun xo_3 50).trans rfl), as_getf zTie⟩) (xB_l ⟨_, zs_icmpge em15_7 (t := 33) (by decide), as_icmp⟩)) (xB_n (xB_l ⟨_, zs_aload_n em15_10, as_aload⟩) (xB_n (xB_l ⟨_, zs_aload_n em15_11, as_aload⟩) (xB_l ⟨_, zs_aload_n em15_12, as_aload⟩))))) (xB_n (xB_n (xB_n (xB_l ⟨_, zs_getf (T := TX2) (M := 10) (ci := 2) (j := 8) em15_13 rfl inX2 (by decide) wd_291 ((congrFun xo_3 25).trans rfl), as_getf zTie⟩) (xB_l ⟨_, zs_iload_n em15_16, as_iload⟩)) (xB_n (xB_l ⟨_, zs_iald em15_17, ag_iald⟩) (xB_l ⟨_, zs_iload_n em15_18, as_iload⟩))) (xB_n (xB_n (xB_l ⟨_, zs_invV (T := TX2) em15_19 zl_12 rfl wd_776 wd_778 wd_7 ((congrFun xo_3 143).trans rfl) xm_12, ag_invV H zh_12 hd (by decide)⟩) (xB_l ⟨_, zs_iconst (v := 3) em15_22 (by decide +kernel), as_const (by decide +kernel)⟩)) (xB_n (xB_l ⟨_, zs_iload_n em15_23, as_iload⟩) (xB_n (xB_l ⟨_, zs_invV (T := TX2) em15_24 zl_14 rfl wd_780 wd_782 wd_8 ((congrFun xo_3 98).trans rfl) xm_14, ag_invV H zh_14 hd (by decide)⟩) (xB_l ⟨_, zs_iinc (k := 1) em15_27 (by decide +kernel), as_iinc (by decide +kernel)⟩)))))) (xB_n (xB_n (xB_n (xB_n (xB_l ⟨_, zs_goto em15_30 (t := 2) (by decide), as_goto⟩) (xB_l ⟨_, zs_aload_n em15_33, as_aload⟩)) (xB_n (xB_l ⟨_, zs_getf (T := TX2) (M := 10) (ci := 2) (j := 9) em15_34 rfl inX2 (by decide) wd_292 ((congrFun xo_3 50).trans rfl), as_getf zTie⟩) (xB_l ⟨_, zs_aload_n em15_37, as_aload⟩))) (xB_n (xB_n (xB_l ⟨_, zs_getf (T := TX2) (M := 10) (ci := 2) (j := 8) em15_38 rfl inX2 (by decide) wd_291 ((congrFun xo_3 25).trans rfl), as_getf zTie⟩) (xB_l ⟨_, zs_alen em15_41, as_alen⟩)) (xB_n (xB_l ⟨_, zs_icmpge em15_42 (t := 65) (by decide), as_icmp⟩) (xB_n (xB_l ⟨_, zs_aload_n em15_45, as_aload⟩) (xB_l ⟨_, zs_getf (T := TX2) (M := 10) (ci := 2) (j := 8) em15_46 rfl inX2 (by decide) wd_291 ((congrFun xo_3 25).trans rfl), as_getf zTie⟩))))) (xB_n (xB_n (xB_n (xB_l ⟨_, zs_aload_n em15_49, as_aload⟩) (xB_l ⟨_, zs_getf (T := TX2) (M := 10) (ci := 2) (j := 9) em15_50 rfl inX2 (by decide) wd_292 ((congrFun xo_3 50).trans rfl), as_getf zTie⟩)) (xB_n (xB_l ⟨_, zs_iload_n em15_53, as_iload⟩) (xB_n (xB_l ⟨_, zs_iast zInj0 em15_54, as_iast zTie⟩) (xB_l ⟨_, zs_aload_n em15_55, as_aload⟩)))) (xB_n (xB_n (xB_l ⟨_, zs_dup em15_56, as_dup⟩) (xB_l ⟨_, zs_getf (T := TX2) (M := 10) (ci := 2) (j := 9) em15_57 rfl inX2 (by decide) wd_292 ((congrFun xo_3 50).trans rfl), as_getf zTie⟩)) (xB_n (xB_l ⟨_, zs_iconst (v := 1) em15_60 (by decide +kernel), as_const (by decide +kernel)⟩) (xB_n (xB_l ⟨_, zs_iadd em15_61, as_bin fadd_ok⟩) (xB_l ⟨_, zs_puti zInj0 (T := TX2) (M := 10) (ty := tyX2) (ci := 2) (j := 9) (kd := 0) em15_62 rfl inX2 tyX2_ok nmX2 (by decide) wd_292 (Or.inl ⟨rfl, rfl⟩) rfl ((congrFun xo_3 50).trans rfl), ag_puti0⟩)))))))
set_option maxRecDepth 100000 in
set_option maxHeartbeats 4000000 in
theorem zM_15 : zOKa 15 zc_15 := z_auto (cuts := [(2, ([(0, 0), (0, 400), (0, 12), (0, 12)], [], [some (.inr (.inl (0, 12))), some (.inl (1, 0)), some (.inl (3, 0))], [], [(3, 2, 0)], (0, 0)), [(0, 2)], 12, [0, 0, 0, (-1)])]) (rets := [(65, 3)]) (fuel := 1000) rfl rfl (by decide) (xrt_ok (xR_c (Or.inr (Or.inr (Or.inl ⟨rfl, em15_65, rfl⟩))) (xR_n))) (fun _ _ H _ hd => zTo_15 H hd) (by decide +kernel)
theorem em16_0 : decode prog_4_method_2_code 0 = .ok (.aload_n 0, 1) := by decide +kernel
theorem em16_1 : decode prog_4_method_2_code 1 = .ok (.getfield 12, 3) := by decide +kernel
theorem em16_4 : decode prog_4_method_2_code 4 = .ok (.invokevirtual 33, 3) := by decide +kernel
theorem em16_7 : decode prog_4_method_2_code 7 = .ok (.aload_n 0, 1) := by decide +kernel
theorem em16_8 : decode prog_4_method_2_code 8 = .ok (.getfield 21, 3) := by decide +kernel
theorem em16_11 : decode prog_4_method_2_code 11 = .ok (.aload_n 0, 1) := by decide +kernel
theorem em16_12 : decode prog_4_method_2_code 12 = .ok (.getfield 29, 3) := by decide +kernel
theorem em16_15 : decode prog_4_method_2_code 15 = .ok (.iload_n 1, 1) := by decide +kernel
theorem em16_16 : decode prog_4_method_2_code 16 = .ok (.invokevirtual 36, 3) := by decide +kernel
theorem em16_19 : decode prog_4_method_2_code 19 = .ok (.aload_n 0, 1) := by decide +kernel
theorem em16_20 : decode prog_4_method_2_code 20 = .ok (.iconst 0, 1) := by decide +kernel
theorem em16_21 : decode prog_4_method_2_code 21 = .ok (.putfield 40, 3) := by decide +kernel
theorem em16_24 : decode prog_4_method_2_code 24 = .ok (.aload_n 0, 1) := by decide +kernel
theorem em16_25 : decode prog_4_method_2_code 25 = .ok (.iconst 0, 1) := by decide +kernel
theorem em16_26 : decode prog_4_method_2_code 26 = .ok (.putfield 44, 3) := by decide +kernel
theorem em16_29 : decode prog_4_method_2_code 29 = .ok (.aload_n 0, 1) := by decide +kernel
theorem em16_30 : decode prog_4_method_2_code 30 = .ok (.iconst 0, 1) := by decide +kernel
theorem em16_31 : decode prog_4_method_2_code 31 = .ok (.putfield 47, 3) := by decide +kernel
theorem em16_34 : decode prog_4_method_2_code 34 = .ok (.aload_n 0, 1) := by decide +kernel
theorem em16_35 : decode prog_4_method_2_code 35 = .ok (.iconst 0, 1) := by decide +kernel
theorem em16_36 : decode prog_4_method_2_code 36 = .ok (.putfield 50, 3) := by decide +kernel
theorem em16_39 : decode prog_4_method_2_code 39 = .ok (.iconst 0, 1) := by decide +kernel
theorem em16_40 : decode prog_4_method_2_code 40 = .ok (.istore_n 2, 1) := by decide +kernel
theorem em16_41 : decode prog_4_method_2_code 41 = .ok (.iload_n 2, 1) := by decide +kernel
theorem em16_42 : decode prog_4_method_2_code 42 = .ok (.sipush 400, 3) := by decide +kernel
theorem em16_45 : decode prog_4_method_2_code 45 = .ok (.if_icmp .gt 140, 3) := by decide +kernel
theorem em16_48 : decode prog_4_method_2_code 48 = .ok (.aload_n 0, 1) := by decide +kernel
theorem em16_49 : decode prog_4_method_2_code 49 = .ok (.getfield 44, 3) := by decide +kernel
theorem em16_52 : decode prog_4_method_2_code 52 = .ok (.ifCond .ne 133, 3) := by decide +kernel
theorem em16_55 : decode prog_4_method_2_code 55 = .ok (.aload_n 0, 1) := by decide +kernel
theorem em16_56 : decode prog_4_method_2_code 56 = .ok (.invokevirtual 53, 3) := by decide +kernel
theorem em16_59 : decode prog_4_method_2_code 59 = .ok (.ifCond .eq 126, 3) := by decide +kernel
theorem em16_62 : decode prog_4_method_2_code 62 = .ok (.aload_n 0, 1) := by decide +kernel
theorem em16_63 : decode prog_4_method_2_code 63 = .ok (.invokevirtual 53, 3) := by decide +kernel
theorem em16_66 : decode prog_4_method_2_code 66 = .ok (.tableswitch 107 128 136 #[50, 57, 64, 72, 80, 88, 96, 96, 96], 50) := by decide +kernel
theorem em16_116 : decode prog_4_method_2_code 116 = .ok (.aload_n 0, 1) := by decide +kernel
theorem em16_117 : decode prog_4_method_2_code 117 = .ok (.invokevirtual 57, 3) := by decide +kernel
theorem em16_120 : decode prog_4_method_2_code 120 = .ok (.goto 59, 3) := by decide +kernel
theorem em16_123 : decode prog_4_method_2_code 123 = .ok (.aload_n 0, 1) := by decide +kernel
theorem em16_124 : decode prog_4_method_2_code 124 = .ok (.invokevirtual 60, 3) := by decide +kernel
theorem em16_127 : decode prog_4_method_2_code 127 = .ok (.goto 52, 3) := by decide +kernel
theorem em16_130 : decode prog_4_method_2_code 130 = .ok (.aload_n 0, 1) := by decide +kernel
theorem em16_131 : decode prog_4_method_2_code 131 = .ok (.iconst 0, 1) := by decide +kernel
theorem em16_132 : decode prog_4_method_2_code 132 = .ok (.invokevirtual 63, 3) := by decide +kernel
theorem em16_135 : decode prog_4_method_2_code 135 = .ok (.goto 44, 3) := by decide +kernel
theorem em16_138 : decode prog_4_method_2_code 138 = .ok (.aload_n 0, 1) := by decide +kernel
theorem em16_139 : decode prog_4_method_2_code 139 = .ok (.iconst 1, 1) := by decide +kernel
theorem em16_140 : decode prog_4_method_2_code 140 = .ok (.invokevirtual 63, 3) := by decide +kernel
theorem em16_143 : decode prog_4_method_2_code 143 = .ok (.goto 36, 3) := by decide +kernel
theorem em16_146 : decode prog_4_method_2_code 146 = .ok (.aload_n 0, 1) := by decide +kernel
theorem em16_147 : decode prog_4_method_2_code 147 = .ok (.iconst 2, 1) := by decide +kernel
theorem em16_148 : decode prog_4_method_2_code 148 = .ok (.invokevirtual 63, 3) := by decide +kernel
theorem em16_151 : decode prog_4_method_2_code 151 = .ok (.goto 28, 3) := by decide +kernel
theorem em16_154 : decode prog_4_method_2_code 154 = .ok (.aload_n 0, 1) := by decide +kernel
theorem em16_155 : decode prog_4_method_2_code 155 = .ok (.iconst 3, 1) := by decide +kernel
theorem em16_156 : decode prog_4_method_2_code 156 = .ok (.invokevirtual 63, 3) := by decide +kernel
theorem em16_159 : decode prog_4_method_2_code 159 = .ok (.goto 20, 3) := by decide +kernel
theorem em16_162 : decode prog_4_method_2_code 162 = .ok (.aload_n 0, 1) := by decide +kernel
theorem em16_163 : decode prog_4_method_2_code 163 = .ok (.aload_n 0, 1) := by decide +kernel
theorem em16_164 : decode prog_4_method_2_code 164 = .ok (.invokevirtual 53, 3) := by decide +kernel
theorem em16_167 : decode prog_4_method_2_code 167 = .ok (.invokevirtual 67, 3) := by decide +kernel
theorem em16_170 : decode prog_4_method_2_code 170 = .ok (.goto 9, 3) := by decide +kernel
theorem em16_173 : decode prog_4_method_2_code 173 = .ok (.aload_n 0, 1) := by decide +kernel
theorem em16_174 : decode prog_4_method_2_code 174 = .ok (.iconst 1, 1) := by decide +kernel
theorem em16_175 : decode prog_4_method_2_code 175 = .ok (.invokevirtual 70, 3) := by decide +kernel
theorem em16_178 : decode prog_4_method_2_code 178 = .ok (.pop, 1) := by decide +kernel
theorem em16_179 : decode prog_4_method_2_code 179 = .ok (.iinc 2 1, 3) := by decide +kernel
theorem em16_182 : decode prog_4_method_2_code 182 = .ok (.goto (-141), 3) := by decide +kernel
theorem em16_185 : decode prog_4_method_2_code 185 = .ok (.aload_n 0, 1) := by decide +kernel
theorem em16_186 : decode prog_4_method_2_code 186 = .ok (.getfield 44, 3) := by decide +kernel
theorem em16_189 : decode prog_4_method_2_code 189 = .ok (.ifCond .ne 19, 3) := by decide +kernel
theorem em16_192 : decode prog_4_method_2_code 192 = .ok (.aload_n 0, 1) := by decide +kernel
theorem em16_193 : decode prog_4_method_2_code 193 = .ok (.aload_n 0, 1) := by decide +kernel
theorem em16_194 : decode prog_4_method_2_code 194 = .ok (.getfield 47, 3) := by decide +kernel
theorem em16_197 : decode prog_4_method_2_code 197 = .ok (.putfield 44, 3) := by decide +kernel
theorem em16_200 : decode prog_4_method_2_code 200 = .ok (.aload_n 0, 1) := by decide +kernel
theorem em16_201 : decode prog_4_method_2_code 201 = .ok (.aload_n 0, 1) := by decide +kernel
theorem em16_202 : decode prog_4_method_2_code 202 = .ok (.getfield 74, 3) := by decide +kernel
theorem em16_205 : decode prog_4_method_2_code 205 = .ok (.putfield 77, 3) := by decide +kernel
theorem em16_208 : decode prog_4_method_2_code 208 = .ok (.aload_n 0, 1) := by decide +kernel
theorem em16_209 : decode prog_4_method_2_code 209 = .ok (.getfield 44, 3) := by decide +kernel
theorem em16_212 : decode prog_4_method_2_code 212 = .ok (.ireturn, 1) := by decide +kernel
/-! CapitalCase$Parser.parse:(I)I -/
noncomputable def zTr_16 : Nat → Option aF := bn 127 (bn 36 (bn 20 (bn 11 (bn 4 (bn 1 (bl 0 (a_aload 0 1)) (bl 1 (a_getf zG0 zT0 2 0 4))) (bn 7 (bl 4 (a_invV zG0 zprot (true, true) zc_51 (zbd 51) (60, 0, 0) 6 1 7)) (bn 8 (bl 7 (a_aload 0 8)) (bl 8 (a_getf zG0 zT0 2 1 11))))) (bn 15 (bn 12 (bl 11 (a_aload 0 12)) (bl 12 (a_getf zG0 zT0 2 2 15))) (bn 16 (bl 15 (a_iload 1 16)) (bn 19 (bl 16 (a_invV zG0 zprot (true, true) zc_52 (zbd 52) (60, 0, 0) 7 3 19)) (bl 19 (a_aload 0 20)))))) (bn 29 (bn 24 (bn 21 (bl 20 (a_const 0 21)) (bl 21 (a_puti zG0 zT0 zprot 2 3 0 24))) (bn 25 (bl 24 (a_aload 0 25)) (bn 26 (bl 25 (a_const 0 26)) (bl 26 (a_puti zG0 zT0 zprot 2 4 0 29))))) (bn 31 (bn 30 (bl 29 (a_aload 0 30)) (bl 30 (a_const 0 31))) (bn 34 (bl 31 (a_puti zG0 zT0 zprot 2 6 0 34)) (bn 35 (bl 34 (a_aload 0 35)) (bl 35 (a_const 0 36))))))) (bn 56 (bn 45 (bn 40 (bn 39 (bl 36 (a_puti zG0 zT0 zprot 2 9 0 39)) (bl 39 (a_const 0 40))) (bn 41 (bl 40 (a_istore 2 41)) (bn 42 (bl 41 (a_iload 2 42)) (bl 42 (a_const 400 45))))) (bn 49 (bn 48 (bl 45 (a_icmp 4 185 48)) (bl 48 (a_aload 0 49))) (bn 52 (bl 49 (a_getf zG0 zT0 2 4 52)) (bn 55 (bl 52 (a_if 1 185 55)) (bl 55 (a_aload 0 56)))))) (bn 116 (bn 62 (bn 59 (bl 56 (a_invV zG0 zprot (true, true) zc_13 (zbd 13) (60, 0, 0) 2 1 59)) (bl 59 (a_if 0 185 62))) (bn 63 (bl 62 (a_aload 0 63)) (bn 66 (bl 63 (a_invV zG0 zprot (true, true) zc_13 (zbd 13) (60, 0, 0) 2 1 66)) (bl 66 (a_tsw 128 [116, 123, 130, 138, 146, 154, 162, 162, 162] 173))))) (bn 120 (bn 117 (bl 116 (a_aload 0 117)) (bl 117 (a_invV zG0 zprot (true, true) zc_17 (zbd 17) (60, 0, 0) 2 1 120))) (bn 123 (bl 120 (a_goto 179)) (bn 124 (bl 123 (a_aload 0 124)) (bl 124 (a_invV zG0 zprot (true, true) zc_20 (zbd 20) (60, 0, 0) 2 1 127)))))))) (bn 167 (bn 147 (bn 138 (bn 131 (bn 130 (bl 127 (a_goto 179)) (bl 130 (a_aload 0 131))) (bn 132 (bl 131 (a_const 0 132)) (bn 135 (bl 132 (a_invV zG0 zprot (true, true) zc_18 (zbd 18) (60, 0, 0) 2 2 135)) (bl 135 (a_goto 179))))) (bn 140 (bn 139 (bl 138 (a_aload 0 139)) (bl 139 (a_const 1 140))) (bn 143 (bl 140 (a_invV zG0 zprot (true, true) zc_18 (zbd 18) (60, 0, 0) 2 2 143)) (bn 146 (bl 143 (a_goto 179)) (bl 146 (a_aload 0 147)))))) (bn 156 (bn 151 (bn 148 (bl 147 (a_const 2 148)) (bl 148 (a_invV zG0 zprot (true, true) zc_18 (zbd 18) (60, 0, 0) 2 2 151))) (bn 154 (bl 151 (a_goto 179)) (bn 155 (bl 154 (a_aload 0 155)) (bl 155 (a_const 3 156))))) (bn 162 (bn 159 (bl 156 (a_invV zG0 zprot (true, true) zc_18 (zbd 18) (60, 0, 0) 2 2 159)) (bl 159 (a_goto 179))) (bn 163 (bl 162 (a_aload 0 163)) (bn 164 (bl 163 (a_aload 0 164)) (bl 164 (a_invV zG0 zprot (true, true) zc_13 (zbd 13) (60, 0, 0) 2 1 167))))))) (bn 189 (bn 178 (bn 173 (bn 170 (bl 167 (a_invV zG0 zprot (true, true) zc_19 (zbd 19) (60, 0, 0) 2 2 170)) (bl 170 (a_goto 179))) (bn 174 (bl 173 (a_aload 0 174)) (bn 175 (bl 174 (a_const 1 175)) (bl 175 (a_invV zG0 zprot (true, true) zc_10 (zbd 10) (60, 0, 0) 2 2 178))))) (bn 182 (bn 179 (bl 178 (a_pop 179)) (bl 179 (a_iinc 2 1 182))) (bn 185 (bl 182 (a_goto 41)) (bn 186 (bl 185 (a_aload 0 186)) (bl 186 (a_getf zG0 zT0 2 4 189)))))) (bn 200 (bn 193 (bn 192 (bl 189 (a_if 1 208 192)) (bl 192 (a_aload 0 193))) (bn 194 (bl 193 (a_aload 0 194)) (bn 197 (bl 194 (a_getf zG0 zT0 2 6 197)) (bl 197 (a_puti zG0 zT0 zprot 2 4 0 200))))) (bn 205 (bn 201 (bl 200 (a_aload 0 201)) (bn 202 (bl 201 (a_aload 0 202)) (bl 202 (a_getf zG0 zT0 2 7 205)))) (bn 208 (bl 205 (a_puti zG0 zT0 zprot 2 5 0 208)) (bn 209 (bl 208 (a_aload 0 209)) (bl 209 (a_getf zG0 zT0 2 4 212))))))))
set_option maxRecDepth 100000 in
set_option maxHeartbeats 4000000 in
theorem zTo_16 {pre : zPre} {post : zPost} (H : zTieC pre post) {d : Nat × Nat × Nat} (hd : zLe (60, 0, 0) d) : aTr zG0 zT0 zInv (true, true) PZ zbd pre post d prog_4_method_2_code "CapitalCase$Parser" zTr_16 := (xB_n (xB_n (xB_n (xB_n (xB_n (xB_n (xB_l ⟨_, zs_aload_n em16_0, as_aload⟩) (xB_l ⟨_, zs_getf (T := TX2) (M := 10) (ci := 2) (j := 0) em16_1 rfl inX2 (by decide) wd_281 ((congrFun xo_3 12).trans rfl), as_getf zTie⟩)) (xB_n (xB_l ⟨_, zs_invV (T := TX6) em16_4 zl_51 rfl wd_622 wd_148 wd_149 ((congrFun xo_3 33).trans rfl) xm_47, ag_invV H zh_51 hd (by decide)⟩) (xB_n (xB_l ⟨_, zs_aload_n em16_7, as_aload⟩) (xB_l ⟨_, zs_getf (T := TX2) (M := 10) (ci := 2) (j := 1) em16_8 rfl inX2 (by decide) wd_283 ((congrFun xo_3 21).trans rfl), as_getf zTie⟩)))) (xB_n (xB_n (xB_l ⟨_, zs_aload_n em16_11, as_aload⟩) (xB_l ⟨_, zs_getf (T := TX2) (M := 10) (ci := 2) (j := 2) em16_12 rfl inX2 (by decide) wd_284 ((congrFun xo_3 29).trans rfl), as_getf zTie⟩)) (xB_n (xB_l ⟨_, zs_iload_n em16_15, as_iload⟩) (xB_n (xB_l ⟨_, zs_invV (T := TX7) em16_16 zl_52 rfl wd_623 wd_624 wd_625 ((congrFun xo_3 36).trans rfl) xm_48, ag_invV H zh_52 hd (by decide)⟩) (xB_l ⟨_, zs_aload_n em16_19, as_aload⟩))))) (xB_n (xB_n (xB_n (xB_l ⟨_, zs_iconst (v := 0) em16_20 (by decide +kernel), as_const (by decide +kernel)⟩) (xB_l ⟨_, zs_puti zInj0 (T := TX2) (M := 10) (ty := tyX2) (ci := 2) (j := 3) (kd := 0) em16_21 rfl inX2 tyX2_ok nmX2 (by decide) wd_285 (Or.inl ⟨rfl, rfl⟩) rfl ((congrFun xo_3 40).trans rfl), ag_puti0⟩)) (xB_n (xB_l ⟨_, zs_aload_n em16_24, as_aload⟩) (xB_n (xB_l ⟨_, zs_iconst (v := 0) em16_25 (by decide +kernel), as_const (by decide +kernel)⟩) (xB_l ⟨_, zs_puti zInj0 (T := TX2) (M := 10) (ty := tyX2) (ci := 2) (j := 4) (kd := 0) em16_26 rfl inX2 tyX2_ok nmX2 (by decide) wd_286 (Or.inl ⟨rfl, rfl⟩) rfl ((congrFun xo_3 44).trans rfl), ag_puti0⟩)))) (xB_n (xB_n (xB_l ⟨_, zs_aload_n em16_29, as_aload⟩) (xB_l ⟨_, zs_iconst (v := 0) em16_30 (by decide +kernel), as_const (by decide +kernel)⟩)) (xB_n (xB_l ⟨_, zs_puti zInj0 (T := TX2) (M := 10) (ty := tyX2) (ci := 2) (j := 6) (kd := 0) em16_31 rfl inX2 tyX2_ok nmX2 (by decide) wd_289 (Or.inl ⟨rfl, rfl⟩) rfl ((congrFun xo_3 47).trans rfl), ag_puti0⟩) (xB_n (xB_l ⟨_, zs_aload_n em16_34, as_aload⟩) (xB_l ⟨_, zs_iconst (v := 0) em16_35 (by decide +kernel), as_const (by decide +kernel)⟩)))))) (xB_n (xB_n (xB_n (xB_n (xB_l ⟨_, zs_puti zInj0 (T := TX2) (M := 10) (ty := tyX2) (ci := 2) (j := 9) (kd := 0) em16_36 rfl inX2 tyX2_ok nmX2 (by decide) wd_292 (Or.inl ⟨rfl, rfl⟩) rfl ((congrFun xo_3 50).trans rfl), ag_puti0⟩) (xB_l ⟨_, zs_iconst (v := 0) em16_39 (by decide +kernel), as_const (by decide +kernel)⟩)) (xB_n (xB_l ⟨_, zs_istore_n em16_40, as_istore⟩) (xB_n (xB_l ⟨_, zs_iload_n em16_41, as_iload⟩) (xB_l ⟨_, zs_sipush (v := 400) em16_42 (by decide +kernel), as_const (by decide +kernel)⟩)))) (xB_n (xB_n (xB_l ⟨_, zs_icmpgt em16_45 (t := 185) (by decide), as_icmp⟩) (xB_l ⟨_, zs_aload_n em16_48, as_aload⟩)) (xB_n (xB_l ⟨_, zs_getf (T := TX2) (M := 10) (ci := 2) (j := 4) em16_49 rfl inX2 (by decide) wd_286 ((congrFun xo_3 44).trans rfl), as_getf zTie⟩) (xB_n (xB_l ⟨_, zs_ifne em16_52 (t := 185) (by decide), as_if⟩) (xB_l ⟨_, zs_aload_n em16_55, as_aload⟩))))) (xB_n (xB_n (xB_n (xB_l ⟨_, zs_invV (T := TX2) em16_56 zl_13 rfl wd_756 wd_758 wd_2 ((congrFun xo_3 53).trans rfl) xm_13, ag_invV H zh_13 hd (by decide)⟩) (xB_l ⟨_, zs_ifeq em16_59 (t := 185) (by decide), as_if⟩)) (xB_n (xB_l ⟨_, zs_aload_n em16_62, as_aload⟩) (xB_n (xB_l ⟨_, zs_invV (T := TX2) em16_63 zl_13 rfl wd_756 wd_758 wd_2 ((congrFun xo_3 53).trans rfl) xm_13, ag_invV H zh_13 hd (by decide)⟩) (xB_l ⟨_, zs_tsw (ts := [116, 123, 130, 138, 146, 154, 162, 162, 162]) (df := 173) em16_66 (by decide +kernel) (by decide +kernel) (ztsw (by decide +kernel) (by decide +kernel)), as_tsw⟩)))) (xB_n (xB_n (xB_l ⟨_, zs_aload_n em16_116, as_aload⟩) (xB_l ⟨_, zs_invV (T := TX2) em16_117 zl_17 rfl wd_760 wd_762 wd_3 ((congrFun xo_3 57).trans rfl) xm_17, ag_invV H zh_17 hd (by decide)⟩)) (xB_n (xB_l ⟨_, zs_goto em16_120 (t := 179) (by decide), as_goto⟩) (xB_n (xB_l ⟨_, zs_aload_n em16_123, as_aload⟩) (xB_l ⟨_, zs_invV (T := TX2) em16_124 zl_20 rfl wd_792 wd_794 wd_11 ((congrFun xo_3 60).trans rfl) xm_20, ag_invV H zh_20 hd (by decide)⟩))))))) (xB_n (xB_n (xB_n (xB_n (xB_n (xB_l ⟨_, zs_goto em16_127 (t := 179) (by decide), as_goto⟩) (xB_l ⟨_, zs_aload_n em16_130, as_aload⟩)) (xB_n (xB_l ⟨_, zs_iconst (v := 0) em16_131 (by decide +kernel), as_const (by decide +kernel)⟩) (xB_n (xB_l ⟨_, zs_invV (T := TX2) em16_132 zl_18 rfl wd_800 wd_802 wd_13 ((congrFun xo_3 63).trans rfl) xm_18, ag_invV H zh_18 hd (by decide)⟩) (xB_l ⟨_, zs_goto em16_135 (t := 179) (by decide), as_goto⟩)))) (xB_n (xB_n (xB_l ⟨_, zs_aload_n em16_138, as_aload⟩) (xB_l ⟨_, zs_iconst (v := 1) em16_139 (by decide +kernel), as_const (by decide +kernel)⟩)) (xB_n (xB_l ⟨_, zs_invV (T := TX2) em16_140 zl_18 rfl wd_800 wd_802 wd_13 ((congrFun xo_3 63).trans rfl) xm_18, ag_invV H zh_18 hd (by decide)⟩) (xB_n (xB_l ⟨_, zs_goto em16_143 (t := 179) (by decide), as_goto⟩) (xB_l ⟨_, zs_aload_n em16_146, as_aload⟩))))) (xB_n (xB_n (xB_n (xB_l ⟨_, zs_iconst (v := 2) em16_147 (by decide +kernel), as_const (by decide +kernel)⟩) (xB_l ⟨_, zs_invV (T := TX2) em16_148 zl_18 rfl wd_800 wd_802 wd_13 ((congrFun xo_3 63).trans rfl) xm_18, ag_invV H zh_18 hd (by decide)⟩)) (xB_n (xB_l ⟨_, zs_goto em16_151 (t := 179) (by decide), as_goto⟩) (xB_n (xB_l ⟨_, zs_aload_n em16_154, as_aload⟩) (xB_l ⟨_, zs_iconst (v := 3) em16_155 (by decide +kernel), as_const (by decide +kernel)⟩)))) (xB_n (xB_n (xB_l ⟨_, zs_invV (T := TX2) em16_156 zl_18 rfl wd_800 wd_802 wd_13 ((congrFun xo_3 63).trans rfl) xm_18, ag_invV H zh_18 hd (by decide)⟩) (xB_l ⟨_, zs_goto em16_159 (t := 179) (by decide), as_goto⟩)) (xB_n (xB_l ⟨_, zs_aload_n em16_162, as_aload⟩) (xB_n (xB_l ⟨_, zs_aload_n em16_163, as_aload⟩) (xB_l ⟨_, zs_invV (T := TX2) em16_164 zl_13 rfl wd_756 wd_758 wd_2 ((congrFun xo_3 53).trans rfl) xm_13, ag_invV H zh_13 hd (by decide)⟩)))))) (xB_n (xB_n (xB_n (xB_n (xB_l ⟨_, zs_invV (T := TX2) em16_167 zl_19 rfl wd_821 wd_823 wd_17 ((congrFun xo_3 67).trans rfl) xm_19, ag_invV H zh_19 hd (by decide)⟩) (xB_l ⟨_, zs_goto em16_170 (t := 179) (by decide), as_goto⟩)) (xB_n (xB_l ⟨_, zs_aload_n em16_173, as_aload⟩) (xB_n (xB_l ⟨_, zs_iconst (v := 1) em16_174 (by decide +kernel), as_const (by decide +kernel)⟩) (xB_l ⟨_, zs_invV (T := TX2) em16_175 zl_10 rfl wd_764 wd_766 wd_4 ((congrFun xo_3 70).trans rfl) xm_10, ag_invV H zh_10 hd (by decide)⟩)))) (xB_n (xB_n (xB_l ⟨_, zs_pop em16_178, as_pop⟩) (xB_l ⟨_, zs_iinc (k := 1) em16_179 (by decide +kernel), as_iinc (by decide +kernel)⟩)) (xB_n (xB_l ⟨_, zs_goto em16_182 (t := 41) (by decide), as_goto⟩) (xB_n (xB_l ⟨_, zs_aload_n em16_185, as_aload⟩) (xB_l ⟨_, zs_getf (T := TX2) (M := 10) (ci := 2) (j := 4) em16_186 rfl inX2 (by decide) wd_286 ((congrFun xo_3 44).trans rfl), as_getf zTie⟩))))) (xB_n (xB_n (xB_n (xB_l ⟨_, zs_ifne em16_189 (t := 208) (by decide), as_if⟩) (xB_l ⟨_, zs_aload_n em16_192, as_aload⟩)) (xB_n (xB_l ⟨_, zs_aload_n em16_193, as_aload⟩) (xB_n (xB_l ⟨_, zs_getf (T := TX2) (M := 10) (ci := 2) (j := 6) em16_194 rfl inX2 (by decide) wd_289 ((congrFun xo_3 47).trans rfl), as_getf zTie⟩) (xB_l ⟨_, zs_puti zInj0 (T := TX2) (M := 10) (ty := tyX2) (ci := 2) (j := 4) (kd := 0) em16_197 rfl inX2 tyX2_ok nmX2 (by decide) wd_286 (Or.inl ⟨rfl, rfl⟩) rfl ((congrFun xo_3 44).trans rfl), ag_puti0⟩)))) (xB_n (xB_n (xB_l ⟨_, zs_aload_n em16_200, as_aload⟩) (xB_n (xB_l ⟨_, zs_aload_n em16_201, as_aload⟩) (xB_l ⟨_, zs_getf (T := TX2) (M := 10) (ci := 2) (j := 7) em16_202 rfl inX2 (by decide) wd_290 ((congrFun xo_3 74).trans rfl), as_getf zTie⟩))) (xB_n (xB_l ⟨_, zs_puti zInj0 (T := TX2) (M := 10) (ty := tyX2) (ci := 2) (j := 5) (kd := 0) em16_205 rfl inX2 tyX2_ok nmX2 (by decide) wd_287 (Or.inl ⟨rfl, rfl⟩) rfl ((congrFun xo_3 77).trans rfl), ag_puti0⟩) (xB_n (xB_l ⟨_, zs_aload_n em16_208, as_aload⟩) (xB_l ⟨_, zs_getf (T := TX2) (M := 10) (ci := 2) (j := 4) em16_209 rfl inX2 (by decide) wd_286 ((congrFun xo_3 44).trans rfl), as_getf zTie⟩))))))))
set_option maxRecDepth 100000 in
set_option maxHeartbeats 4000000 in
theorem zM_16 : zOKa 16 zc_16 := z_auto (cuts := [(41, ([(0, 0), (0, 2000), (0, 400), (0, 12), (0, 408), (0, 5), (0, 7), (0, 401), (0, 400), (0, 12), (0, 408), (0, 5), (0, 7)], [], [some (.inr (.inl (0, 12))), some (.inl (1, 0)), some (.inl (7, 0))], [], [(2, 8, 0), (3, 9, 0), (4, 10, 0), (5, 11, 0), (6, 12, 0)], (0, 0)), [(0, 2), (1, 2), (1, 3), (1, 4), (1, 5), (1, 6)], 401, [0, 0, 0, 0, 0, 0, 0, (-1)])]) (rets := [(212, 1)]) (fuel := 1000) rfl rfl (by decide) (xrt_ok (xR_c (Or.inl ⟨rfl, em16_212, rfl⟩) (xR_n))) (fun _ _ H _ hd => zTo_16 H hd) (by decide +kernel)
theorem em19_0 : decode prog_4_method_9_code 0 = .ok (.aload_n 0, 1) := by decide +kernel
theorem em19_1 : decode prog_4_method_9_code 1 = .ok (.getfield 40, 3) := by decide +kernel
theorem em19_4 : decode prog_4_method_9_code 4 = .ok (.istore_n 2, 1) := by decide +kernel
theorem em19_5 : decode prog_4_method_9_code 5 = .ok (.aload_n 0, 1) := by decide +kernel
theorem em19_6 : decode prog_4_method_9_code 6 = .ok (.iload_n 1, 1) := by decide +kernel
theorem em19_7 : decode prog_4_method_9_code 7 = .ok (.invokevirtual 89, 3) := by decide +kernel
theorem em19_10 : decode prog_4_method_9_code 10 = .ok (.ifCond .eq 20, 3) := by decide +kernel
theorem em19_13 : decode prog_4_method_9_code 13 = .ok (.aload_n 0, 1) := by decide +kernel
theorem em19_14 : decode prog_4_method_9_code 14 = .ok (.iconst 3, 1) := by decide +kernel
theorem em19_15 : decode prog_4_method_9_code 15 = .ok (.invokevirtual 89, 3) := by decide +kernel
theorem em19_18 : decode prog_4_method_9_code 18 = .ok (.ifCond .eq 12, 3) := by decide +kernel
theorem em19_21 : decode prog_4_method_9_code 21 = .ok (.aload_n 0, 1) := by decide +kernel
theorem em19_22 : decode prog_4_method_9_code 22 = .ok (.bipush 59, 2) := by decide +kernel
theorem em19_24 : decode prog_4_method_9_code 24 = .ok (.invokevirtual 89, 3) := by decide +kernel
theorem em19_27 : decode prog_4_method_9_code 27 = .ok (.ifCond .ne 4, 3) := by decide +kernel
theorem em19_30 : decode prog_4_method_9_code 30 = .ok (.return_, 1) := by decide +kernel
theorem em19_31 : decode prog_4_method_9_code 31 = .ok (.iload_n 1, 1) := by decide +kernel
theorem em19_32 : decode prog_4_method_9_code 32 = .ok (.sipush 134, 3) := by decide +kernel
theorem em19_35 : decode prog_4_method_9_code 35 = .ok (.if_icmp .ne 23, 3) := by decide +kernel
theorem em19_38 : decode prog_4_method_9_code 38 = .ok (.aload_n 0, 1) := by decide +kernel
theorem em19_39 : decode prog_4_method_9_code 39 = .ok (.getfield 12, 3) := by decide +kernel
theorem em19_42 : decode prog_4_method_9_code 42 = .ok (.aload_n 0, 1) := by decide +kernel
theorem em19_43 : decode prog_4_method_9_code 43 = .ok (.iload_n 2, 1) := by decide +kernel
theorem em19_44 : decode prog_4_method_9_code 44 = .ok (.iconst 1, 1) := by decide +kernel
theorem em19_45 : decode prog_4_method_9_code 45 = .ok (.iadd, 1) := by decide +kernel
theorem em19_46 : decode prog_4_method_9_code 46 = .ok (.iconst 1, 1) := by decide +kernel
theorem em19_47 : decode prog_4_method_9_code 47 = .ok (.bipush 99, 2) := by decide +kernel
theorem em19_49 : decode prog_4_method_9_code 49 = .ok (.invokevirtual 118, 3) := by decide +kernel
theorem em19_52 : decode prog_4_method_9_code 52 = .ok (.putfield 134, 3) := by decide +kernel
theorem em19_55 : decode prog_4_method_9_code 55 = .ok (.goto 48, 3) := by decide +kernel
theorem em19_58 : decode prog_4_method_9_code 58 = .ok (.iload_n 1, 1) := by decide +kernel
theorem em19_59 : decode prog_4_method_9_code 59 = .ok (.sipush 135, 3) := by decide +kernel
theorem em19_62 : decode prog_4_method_9_code 62 = .ok (.if_icmp .ne 23, 3) := by decide +kernel
theorem em19_65 : decode prog_4_method_9_code 65 = .ok (.aload_n 0, 1) := by decide +kernel
theorem em19_66 : decode prog_4_method_9_code 66 = .ok (.getfield 12, 3) := by decide +kernel
theorem em19_69 : decode prog_4_method_9_code 69 = .ok (.aload_n 0, 1) := by decide +kernel
theorem em19_70 : decode prog_4_method_9_code 70 = .ok (.iload_n 2, 1) := by decide +kernel
theorem em19_71 : decode prog_4_method_9_code 71 = .ok (.iconst 1, 1) := by decide +kernel
theorem em19_72 : decode prog_4_method_9_code 72 = .ok (.iadd, 1) := by decide +kernel
theorem em19_73 : decode prog_4_method_9_code 73 = .ok (.iconst 0, 1) := by decide +kernel
theorem em19_74 : decode prog_4_method_9_code 74 = .ok (.bipush 100, 2) := by decide +kernel
theorem em19_76 : decode prog_4_method_9_code 76 = .ok (.invokevirtual 118, 3) := by decide +kernel
theorem em19_79 : decode prog_4_method_9_code 79 = .ok (.putfield 137, 3) := by decide +kernel
theorem em19_82 : decode prog_4_method_9_code 82 = .ok (.goto 21, 3) := by decide +kernel
theorem em19_85 : decode prog_4_method_9_code 85 = .ok (.aload_n 0, 1) := by decide +kernel
theorem em19_86 : decode prog_4_method_9_code 86 = .ok (.getfield 12, 3) := by decide +kernel
theorem em19_89 : decode prog_4_method_9_code 89 = .ok (.aload_n 0, 1) := by decide +kernel
theorem em19_90 : decode prog_4_method_9_code 90 = .ok (.iload_n 2, 1) := by decide +kernel
theorem em19_91 : decode prog_4_method_9_code 91 = .ok (.iconst 1, 1) := by decide +kernel
theorem em19_92 : decode prog_4_method_9_code 92 = .ok (.iadd, 1) := by decide +kernel
theorem em19_93 : decode prog_4_method_9_code 93 = .ok (.iconst 0, 1) := by decide +kernel
theorem em19_94 : decode prog_4_method_9_code 94 = .ok (.sipush 9999, 3) := by decide +kernel
theorem em19_97 : decode prog_4_method_9_code 97 = .ok (.invokevirtual 118, 3) := by decide +kernel
theorem em19_100 : decode prog_4_method_9_code 100 = .ok (.putfield 140, 3) := by decide +kernel
theorem em19_103 : decode prog_4_method_9_code 103 = .ok (.return_, 1) := by decide +kernel
/-! CapitalCase$Parser.parseNumber:(I)V -/
noncomputable def zTr_19 : Nat → Option aF := bn 49 (bn 24 (bn 10 (bn 5 (bn 1 (bl 0 (a_aload 0 1)) (bn 4 (bl 1 (a_getf zG0 zT0 2 3 4)) (bl 4 (a_istore 2 5)))) (bn 6 (bl 5 (a_aload 0 6)) (bn 7 (bl 6 (a_iload 1 7)) (bl 7 (a_invV zG0 zprot (true, false) zc_9 (zbd 9) (6, 0, 0) 2 2 10))))) (bn 15 (bn 13 (bl 10 (a_if 0 30 13)) (bn 14 (bl 13 (a_aload 0 14)) (bl 14 (a_const 3 15)))) (bn 21 (bn 18 (bl 15 (a_invV zG0 zprot (true, false) zc_9 (zbd 9) (6, 0, 0) 2 2 18)) (bl 18 (a_if 0 30 21))) (bn 22 (bl 21 (a_aload 0 22)) (bl 22 (a_const 59 24)))))) (bn 39 (bn 32 (bn 27 (bl 24 (a_invV zG0 zprot (true, false) zc_9 (zbd 9) (6, 0, 0) 2 2 27)) (bn 31 (bl 27 (a_if 1 31 30)) (bl 31 (a_iload 1 32)))) (bn 35 (bl 32 (a_const 134 35)) (bn 38 (bl 35 (a_icmp 1 58 38)) (bl 38 (a_aload 0 39))))) (bn 44 (bn 42 (bl 39 (a_getf zG0 zT0 2 0 42)) (bn 43 (bl 42 (a_aload 0 43)) (bl 43 (a_iload 2 44)))) (bn 46 (bn 45 (bl 44 (a_const 1 45)) (bl 45 (a_bin fadd 46))) (bn 47 (bl 46 (a_const 1 47)) (bl 47 (a_const 99 49))))))) (bn 74 (bn 65 (bn 58 (bn 52 (bl 49 (a_invV zG0 zprot (true, false) zc_11 (zbd 11) (6, 0, 0) 2 4 52)) (bn 55 (bl 52 (a_puti zG0 zT0 zprot 6 4 0 55)) (bl 55 (a_goto 103)))) (bn 59 (bl 58 (a_iload 1 59)) (bn 62 (bl 59 (a_const 135 62)) (bl 62 (a_icmp 1 85 65))))) (bn 70 (bn 66 (bl 65 (a_aload 0 66)) (bn 69 (bl 66 (a_getf zG0 zT0 2 0 69)) (bl 69 (a_aload 0 70)))) (bn 72 (bn 71 (bl 70 (a_iload 2 71)) (bl 71 (a_const 1 72))) (bn 73 (bl 72 (a_bin fadd 73)) (bl 73 (a_const 0 74)))))) (bn 90 (bn 82 (bn 76 (bl 74 (a_const 100 76)) (bn 79 (bl 76 (a_invV zG0 zprot (true, false) zc_11 (zbd 11) (6, 0, 0) 2 4 79)) (bl 79 (a_puti zG0 zT0 zprot 6 2 0 82)))) (bn 86 (bn 85 (bl 82 (a_goto 103)) (bl 85 (a_aload 0 86))) (bn 89 (bl 86 (a_getf zG0 zT0 2 0 89)) (bl 89 (a_aload 0 90))))) (bn 93 (bn 91 (bl 90 (a_iload 2 91)) (bn 92 (bl 91 (a_const 1 92)) (bl 92 (a_bin fadd 93)))) (bn 97 (bn 94 (bl 93 (a_const 0 94)) (bl 94 (a_const 9999 97))) (bn 100 (bl 97 (a_invV zG0 zprot (true, false) zc_11 (zbd 11) (6, 0, 0) 2 4 100)) (bl 100 (a_puti zG0 zT0 zprot 6 3 0 103)))))))
set_option maxRecDepth 100000 in
set_option maxHeartbeats 4000000 in
theorem zTo_19 {pre : zPre} {post : zPost} (H : zTieC pre post) {d : Nat × Nat × Nat} (hd : zLe (6, 0, 0) d) : aTr zG0 zT0 zInv (true, false) PZ zbd pre post d prog_4_method_9_code "CapitalCase$Parser" zTr_19 := (xB_n (xB_n (xB_n (xB_n (xB_n (xB_l ⟨_, zs_aload_n em19_0, as_aload⟩) (xB_n (xB_l ⟨_, zs_getf (T := TX2) (M := 10) (ci := 2) (j := 3) em19_1 rfl inX2 (by decide) wd_285 ((congrFun xo_3 40).trans rfl), as_getf zTie⟩) (xB_l ⟨_, zs_istore_n em19_4, as_istore⟩))) (xB_n (xB_l ⟨_, zs_aload_n em19_5, as_aload⟩) (xB_n (xB_l ⟨_, zs_iload_n em19_6, as_iload⟩) (xB_l ⟨_, zs_invV (T := TX2) em19_7 zl_9 rfl wd_768 wd_770 wd_5 ((congrFun xo_3 89).trans rfl) xm_9, ag_invV H zh_9 hd (by decide)⟩)))) (xB_n (xB_n (xB_l ⟨_, zs_ifeq em19_10 (t := 30) (by decide), as_if⟩) (xB_n (xB_l ⟨_, zs_aload_n em19_13, as_aload⟩) (xB_l ⟨_, zs_iconst (v := 3) em19_14 (by decide +kernel), as_const (by decide +kernel)⟩))) (xB_n (xB_n (xB_l ⟨_, zs_invV (T := TX2) em19_15 zl_9 rfl wd_768 wd_770 wd_5 ((congrFun xo_3 89).trans rfl) xm_9, ag_invV H zh_9 hd (by decide)⟩) (xB_l ⟨_, zs_ifeq em19_18 (t := 30) (by decide), as_if⟩)) (xB_n (xB_l ⟨_, zs_aload_n em19_21, as_aload⟩) (xB_l ⟨_, zs_bipush (v := 59) em19_22 (by decide +kernel), as_const (by decide +kernel)⟩))))) (xB_n (xB_n (xB_n (xB_l ⟨_, zs_invV (T := TX2) em19_24 zl_9 rfl wd_768 wd_770 wd_5 ((congrFun xo_3 89).trans rfl) xm_9, ag_invV H zh_9 hd (by decide)⟩) (xB_n (xB_l ⟨_, zs_ifne em19_27 (t := 31) (by decide), as_if⟩) (xB_l ⟨_, zs_iload_n em19_31, as_iload⟩))) (xB_n (xB_l ⟨_, zs_sipush (v := 134) em19_32 (by decide +kernel), as_const (by decide +kernel)⟩) (xB_n (xB_l ⟨_, zs_icmpne em19_35 (t := 58) (by decide), as_icmp⟩) (xB_l ⟨_, zs_aload_n em19_38, as_aload⟩)))) (xB_n (xB_n (xB_l ⟨_, zs_getf (T := TX2) (M := 10) (ci := 2) (j := 0) em19_39 rfl inX2 (by decide) wd_281 ((congrFun xo_3 12).trans rfl), as_getf zTie⟩) (xB_n (xB_l ⟨_, zs_aload_n em19_42, as_aload⟩) (xB_l ⟨_, zs_iload_n em19_43, as_iload⟩))) (xB_n (xB_n (xB_l ⟨_, zs_iconst (v := 1) em19_44 (by decide +kernel), as_const (by decide +kernel)⟩) (xB_l ⟨_, zs_iadd em19_45, as_bin fadd_ok⟩)) (xB_n (xB_l ⟨_, zs_iconst (v := 1) em19_46 (by decide +kernel), as_const (by decide +kernel)⟩) (xB_l ⟨_, zs_bipush (v := 99) em19_47 (by decide +kernel), as_const (by decide +kernel)⟩)))))) (xB_n (xB_n (xB_n (xB_n (xB_l ⟨_, zs_invV (T := TX2) em19_49 zl_11 rfl wd_796 wd_798 wd_12 ((congrFun xo_3 118).trans rfl) xm_11, ag_invV H zh_11 hd (by decide)⟩) (xB_n (xB_l ⟨_, zs_puti zInj0 (T := TX6) (M := 15) (ty := tyX6) (ci := 6) (j := 4) (kd := 0) em19_52 rfl inX6 tyX6_ok nmX6 (by decide) wd_177 (Or.inl ⟨rfl, rfl⟩) rfl ((congrFun xo_3 134).trans rfl), ag_puti0⟩) (xB_l ⟨_, zs_goto em19_55 (t := 103) (by decide), as_goto⟩))) (xB_n (xB_l ⟨_, zs_iload_n em19_58, as_iload⟩) (xB_n (xB_l ⟨_, zs_sipush (v := 135) em19_59 (by decide +kernel), as_const (by decide +kernel)⟩) (xB_l ⟨_, zs_icmpne em19_62 (t := 85) (by decide), as_icmp⟩)))) (xB_n (xB_n (xB_l ⟨_, zs_aload_n em19_65, as_aload⟩) (xB_n (xB_l ⟨_, zs_getf (T := TX2) (M := 10) (ci := 2) (j := 0) em19_66 rfl inX2 (by decide) wd_281 ((congrFun xo_3 12).trans rfl), as_getf zTie⟩) (xB_l ⟨_, zs_aload_n em19_69, as_aload⟩))) (xB_n (xB_n (xB_l ⟨_, zs_iload_n em19_70, as_iload⟩) (xB_l ⟨_, zs_iconst (v := 1) em19_71 (by decide +kernel), as_const (by decide +kernel)⟩)) (xB_n (xB_l ⟨_, zs_iadd em19_72, as_bin fadd_ok⟩) (xB_l ⟨_, zs_iconst (v := 0) em19_73 (by decide +kernel), as_const (by decide +kernel)⟩))))) (xB_n (xB_n (xB_n (xB_l ⟨_, zs_bipush (v := 100) em19_74 (by decide +kernel), as_const (by decide +kernel)⟩) (xB_n (xB_l ⟨_, zs_invV (T := TX2) em19_76 zl_11 rfl wd_796 wd_798 wd_12 ((congrFun xo_3 118).trans rfl) xm_11, ag_invV H zh_11 hd (by decide)⟩) (xB_l ⟨_, zs_puti zInj0 (T := TX6) (M := 15) (ty := tyX6) (ci := 6) (j := 2) (kd := 0) em19_79 rfl inX6 tyX6_ok nmX6 (by decide) wd_180 (Or.inl ⟨rfl, rfl⟩) rfl ((congrFun xo_3 137).trans rfl), ag_puti0⟩))) (xB_n (xB_n (xB_l ⟨_, zs_goto em19_82 (t := 103) (by decide), as_goto⟩) (xB_l ⟨_, zs_aload_n em19_85, as_aload⟩)) (xB_n (xB_l ⟨_, zs_getf (T := TX2) (M := 10) (ci := 2) (j := 0) em19_86 rfl inX2 (by decide) wd_281 ((congrFun xo_3 12).trans rfl), as_getf zTie⟩) (xB_l ⟨_, zs_aload_n em19_89, as_aload⟩)))) (xB_n (xB_n (xB_l ⟨_, zs_iload_n em19_90, as_iload⟩) (xB_n (xB_l ⟨_, zs_iconst (v := 1) em19_91 (by decide +kernel), as_const (by decide +kernel)⟩) (xB_l ⟨_, zs_iadd em19_92, as_bin fadd_ok⟩))) (xB_n (xB_n (xB_l ⟨_, zs_iconst (v := 0) em19_93 (by decide +kernel), as_const (by decide +kernel)⟩) (xB_l ⟨_, zs_sipush (v := 9999) em19_94 (by decide +kernel), as_const (by decide +kernel)⟩)) (xB_n (xB_l ⟨_, zs_invV (T := TX2) em19_97 zl_11 rfl wd_796 wd_798 wd_12 ((congrFun xo_3 118).trans rfl) xm_11, ag_invV H zh_11 hd (by decide)⟩) (xB_l ⟨_, zs_puti zInj0 (T := TX6) (M := 15) (ty := tyX6) (ci := 6) (j := 3) (kd := 0) em19_100 rfl inX6 tyX6_ok nmX6 (by decide) wd_182 (Or.inl ⟨rfl, rfl⟩) rfl ((congrFun xo_3 140).trans rfl), ag_puti0⟩)))))))
set_option maxRecDepth 100000 in
set_option maxHeartbeats 4000000 in
theorem zM_19 : zOKa 19 zc_19 := z_auto (cuts := []) (rets := [(30, 3), (103, 3)]) (fuel := 1000) rfl rfl (by decide) (xrt_ok (xR_c (Or.inr (Or.inr (Or.inl ⟨rfl, em19_30, rfl⟩))) (xR_c (Or.inr (Or.inr (Or.inl ⟨rfl, em19_103, rfl⟩))) (xR_n)))) (fun _ _ H _ hd => zTo_19 H hd) (by decide +kernel)
theorem em21_0 : decode prog_5_method_6_code 0 = .ok (.iconst 0, 1) := by decide +kernel
theorem em21_1 : decode prog_5_method_6_code 1 = .ok (.istore_n 3, 1) := by decide +kernel
theorem em21_2 : decode prog_5_method_6_code 2 = .ok (.iload_n 3, 1) := by decide +kernel
theorem em21_3 : decode prog_5_method_6_code 3 = .ok (.iload_n 2, 1) := by decide +kernel
theorem em21_4 : decode prog_5_method_6_code 4 = .ok (.if_icmp .ge 47, 3) := by decide +kernel
theorem em21_7 : decode prog_5_method_6_code 7 = .ok (.iload_n 1, 1) := by decide +kernel
theorem em21_8 : decode prog_5_method_6_code 8 = .ok (.bipush 8, 2) := by decide +kernel
theorem em21_10 : decode prog_5_method_6_code 10 = .ok (.imul, 1) := by decide +kernel
theorem em21_11 : decode prog_5_method_6_code 11 = .ok (.iload_n 3, 1) := by decide +kernel
theorem em21_12 : decode prog_5_method_6_code 12 = .ok (.iadd, 1) := by decide +kernel
theorem em21_13 : decode prog_5_method_6_code 13 = .ok (.istore 4, 2) := by decide +kernel
theorem em21_15 : decode prog_5_method_6_code 15 = .ok (.aload_n 0, 1) := by decide +kernel
theorem em21_16 : decode prog_5_method_6_code 16 = .ok (.getfield 9, 3) := by decide +kernel
theorem em21_19 : decode prog_5_method_6_code 19 = .ok (.aload_n 0, 1) := by decide +kernel
theorem em21_20 : decode prog_5_method_6_code 20 = .ok (.getfield 15, 3) := by decide +kernel
theorem em21_23 : decode prog_5_method_6_code 23 = .ok (.iload 4, 2) := by decide +kernel
theorem em21_25 : decode prog_5_method_6_code 25 = .ok (.iaload, 1) := by decide +kernel
theorem em21_26 : decode prog_5_method_6_code 26 = .ok (.bipush 8, 2) := by decide +kernel
theorem em21_28 : decode prog_5_method_6_code 28 = .ok (.imul, 1) := by decide +kernel
theorem em21_29 : decode prog_5_method_6_code 29 = .ok (.aload_n 0, 1) := by decide +kernel
theorem em21_30 : decode prog_5_method_6_code 30 = .ok (.getfield 30, 3) := by decide +kernel
theorem em21_33 : decode prog_5_method_6_code 33 = .ok (.getfield 90, 3) := by decide +kernel
theorem em21_36 : decode prog_5_method_6_code 36 = .ok (.iload 4, 2) := by decide +kernel
theorem em21_38 : decode prog_5_method_6_code 38 = .ok (.iaload, 1) := by decide +kernel
theorem em21_39 : decode prog_5_method_6_code 39 = .ok (.iadd, 1) := by decide +kernel
theorem em21_40 : decode prog_5_method_6_code 40 = .ok (.dup2, 1) := by decide +kernel
theorem em21_41 : decode prog_5_method_6_code 41 = .ok (.iaload, 1) := by decide +kernel
theorem em21_42 : decode prog_5_method_6_code 42 = .ok (.iconst 1, 1) := by decide +kernel
theorem em21_43 : decode prog_5_method_6_code 43 = .ok (.iadd, 1) := by decide +kernel
theorem em21_44 : decode prog_5_method_6_code 44 = .ok (.iastore, 1) := by decide +kernel
theorem em21_45 : decode prog_5_method_6_code 45 = .ok (.iinc 3 1, 3) := by decide +kernel
theorem em21_48 : decode prog_5_method_6_code 48 = .ok (.goto (-46), 3) := by decide +kernel
theorem em21_51 : decode prog_5_method_6_code 51 = .ok (.return_, 1) := by decide +kernel
/-! CapitalCase$Planner.giveUp:(II)V -/
noncomputable def zTr_21 : Nat → Option aF := bn 25 (bn 11 (bn 4 (bn 2 (bn 1 (bl 0 (a_const 0 1)) (bl 1 (a_istore 3 2))) (bn 3 (bl 2 (a_iload 3 3)) (bl 3 (a_iload 2 4)))) (bn 8 (bn 7 (bl 4 (a_icmp 3 51 7)) (bl 7 (a_iload 1 8))) (bn 10 (bl 8 (a_const 8 10)) (bl 10 (a_bin fmul 11))))) (bn 16 (bn 13 (bn 12 (bl 11 (a_iload 3 12)) (bl 12 (a_bin fadd 13))) (bn 15 (bl 13 (a_istore 4 15)) (bl 15 (a_aload 0 16)))) (bn 20 (bn 19 (bl 16 (a_getf zG0 zT0 3 2 19)) (bl 19 (a_aload 0 20))) (bn 23 (bl 20 (a_getf zG0 zT0 3 3 23)) (bl 23 (a_iload 4 25)))))) (bn 39 (bn 30 (bn 28 (bn 26 (bl 25 (a_ald zG0 zT0 (false, false) ts0 26)) (bl 26 (a_const 8 28))) (bn 29 (bl 28 (a_bin fmul 29)) (bl 29 (a_aload 0 30)))) (bn 36 (bn 33 (bl 30 (a_getf zG0 zT0 3 0 33)) (bl 33 (a_getf zG0 zT0 6 9 36))) (bn 38 (bl 36 (a_iload 4 38)) (bl 38 (a_ald zG0 zT0 (false, false) ts0 39))))) (bn 43 (bn 41 (bn 40 (bl 39 (a_bin fadd 40)) (bl 40 (a_dup2 41))) (bn 42 (bl 41 (a_ald zG0 zT0 (false, false) ts0 42)) (bl 42 (a_const 1 43)))) (bn 45 (bn 44 (bl 43 (a_bin fadd 44)) (bl 44 (a_ast zG0 zT0 ts0 45))) (bn 48 (bl 45 (a_iinc 3 1 48)) (bl 48 (a_goto 2))))))
set_option maxRecDepth 100000 in
set_option maxHeartbeats 4000000 in
theorem zTo_21 {pre : zPre} {post : zPost} (H : zTieC pre post) {d : Nat × Nat × Nat} (hd : zLe (0, 0, 0) d) : aTr zG0 zT0 zInv (false, false) PZ zbd pre post d prog_5_method_6_code "CapitalCase$Planner" zTr_21 := (xB_n (xB_n (xB_n (xB_n (xB_n (xB_l ⟨_, zs_iconst (v := 0) em21_0 (by decide +kernel), as_const (by decide +kernel)⟩) (xB_l ⟨_, zs_istore_n em21_1, as_istore⟩)) (xB_n (xB_l ⟨_, zs_iload_n em21_2, as_iload⟩) (xB_l ⟨_, zs_iload_n em21_3, as_iload⟩))) (xB_n (xB_n (xB_l ⟨_, zs_icmpge em21_4 (t := 51) (by decide), as_icmp⟩) (xB_l ⟨_, zs_iload_n em21_7, as_iload⟩)) (xB_n (xB_l ⟨_, zs_bipush (v := 8) em21_8 (by decide +kernel), as_const (by decide +kernel)⟩) (xB_l ⟨_, zs_imul em21_10, as_bin fmul_ok⟩)))) (xB_n (xB_n (xB_n (xB_l ⟨_, zs_iload_n em21_11, as_iload⟩) (xB_l ⟨_, zs_iadd em21_12, as_bin fadd_ok⟩)) (xB_n (xB_l ⟨_, zs_istore em21_13, as_istore⟩) (xB_l ⟨_, zs_aload_n em21_15, as_aload⟩))) (xB_n (xB_n (xB_l ⟨_, zs_getf (T := TX3) (M := 12) (ci := 3) (j := 2) em21_16 rfl inX3 (by decide) wd_453 ((congrFun xo_4 9).trans rfl), as_getf zTie⟩) (xB_l ⟨_, zs_aload_n em21_19, as_aload⟩)) (xB_n (xB_l ⟨_, zs_getf (T := TX3) (M := 12) (ci := 3) (j := 3) em21_20 rfl inX3 (by decide) wd_454 ((congrFun xo_4 15).trans rfl), as_getf zTie⟩) (xB_l ⟨_, zs_iload em21_23, as_iload⟩))))) (xB_n (xB_n (xB_n (xB_n (xB_l ⟨_, zs_iald em21_25, ag_iald⟩) (xB_l ⟨_, zs_bipush (v := 8) em21_26 (by decide +kernel), as_const (by decide +kernel)⟩)) (xB_n (xB_l ⟨_, zs_imul em21_28, as_bin fmul_ok⟩) (xB_l ⟨_, zs_aload_n em21_29, as_aload⟩))) (xB_n (xB_n (xB_l ⟨_, zs_getf (T := TX3) (M := 12) (ci := 3) (j := 0) em21_30 rfl inX3 (by decide) wd_451 ((congrFun xo_4 30).trans rfl), as_getf zTie⟩) (xB_l ⟨_, zs_getf (T := TX6) (M := 15) (ci := 6) (j := 9) em21_33 rfl inX6 (by decide) wd_203 ((congrFun xo_4 90).trans rfl), as_getf zTie⟩)) (xB_n (xB_l ⟨_, zs_iload em21_36, as_iload⟩) (xB_l ⟨_, zs_iald em21_38, ag_iald⟩)))) (xB_n (xB_n (xB_n (xB_l ⟨_, zs_iadd em21_39, as_bin fadd_ok⟩) (xB_l ⟨_, zs_dup2 em21_40, as_dup2⟩)) (xB_n (xB_l ⟨_, zs_iald em21_41, ag_iald⟩) (xB_l ⟨_, zs_iconst (v := 1) em21_42 (by decide +kernel), as_const (by decide +kernel)⟩))) (xB_n (xB_n (xB_l ⟨_, zs_iadd em21_43, as_bin fadd_ok⟩) (xB_l ⟨_, zs_iast zInj0 em21_44, as_iast zTie⟩)) (xB_n (xB_l ⟨_, zs_iinc (k := 1) em21_45 (by decide +kernel), as_iinc (by decide +kernel)⟩) (xB_l ⟨_, zs_goto em21_48 (t := 2) (by decide), as_goto⟩))))))
set_option maxRecDepth 100000 in
set_option maxHeartbeats 4000000 in
theorem zM_21 : zOKa 21 zc_21 := z_auto (cuts := [(2, ([(0, 0), (0, 6), (0, 8), (0, 8)], [], [some (.inr (.inl (1, 2000))), some (.inl (1, 0)), some (.inl (2, 0)), some (.inl (3, 0)), none], [], [], (0, 0)), [(0, 3)], 8, [0, 0, 0, (-1)])]) (rets := [(51, 3)]) (fuel := 1000) rfl rfl (by decide) (xrt_ok (xR_c (Or.inr (Or.inr (Or.inl ⟨rfl, em21_51, rfl⟩))) (xR_n))) (fun _ _ H _ hd => zTo_21 H hd) (by decide +kernel)
theorem em22_0 : decode prog_5_method_10_code 0 = .ok (.iload_n 2, 1) := by decide +kernel
theorem em22_1 : decode prog_5_method_10_code 1 = .ok (.aload_n 0, 1) := by decide +kernel
theorem em22_2 : decode prog_5_method_10_code 2 = .ok (.getfield 42, 3) := by decide +kernel
theorem em22_5 : decode prog_5_method_10_code 5 = .ok (.if_icmp .gt 19, 3) := by decide +kernel
theorem em22_8 : decode prog_5_method_10_code 8 = .ok (.iload_n 2, 1) := by decide +kernel
theorem em22_9 : decode prog_5_method_10_code 9 = .ok (.aload_n 0, 1) := by decide +kernel
theorem em22_10 : decode prog_5_method_10_code 10 = .ok (.getfield 42, 3) := by decide +kernel
theorem em22_13 : decode prog_5_method_10_code 13 = .ok (.if_icmp .ne 21, 3) := by decide +kernel
theorem em22_16 : decode prog_5_method_10_code 16 = .ok (.iload_n 1, 1) := by decide +kernel
theorem em22_17 : decode prog_5_method_10_code 17 = .ok (.aload_n 0, 1) := by decide +kernel
theorem em22_18 : decode prog_5_method_10_code 18 = .ok (.getfield 45, 3) := by decide +kernel
theorem em22_21 : decode prog_5_method_10_code 21 = .ok (.if_icmp .ge 13, 3) := by decide +kernel
theorem em22_24 : decode prog_5_method_10_code 24 = .ok (.aload_n 0, 1) := by decide +kernel
theorem em22_25 : decode prog_5_method_10_code 25 = .ok (.iload_n 2, 1) := by decide +kernel
theorem em22_26 : decode prog_5_method_10_code 26 = .ok (.putfield 42, 3) := by decide +kernel
theorem em22_29 : decode prog_5_method_10_code 29 = .ok (.aload_n 0, 1) := by decide +kernel
theorem em22_30 : decode prog_5_method_10_code 30 = .ok (.iload_n 1, 1) := by decide +kernel
theorem em22_31 : decode prog_5_method_10_code 31 = .ok (.putfield 45, 3) := by decide +kernel
theorem em22_34 : decode prog_5_method_10_code 34 = .ok (.return_, 1) := by decide +kernel
/-! CapitalCase$Planner.keepIfMore:(II)V -/
noncomputable def zTr_22 : Nat → Option aF := bn 17 (bn 8 (bn 2 (bn 1 (bl 0 (a_iload 2 1)) (bl 1 (a_aload 0 2))) (bn 5 (bl 2 (a_getf zG0 zT0 3 6 5)) (bl 5 (a_icmp 4 24 8)))) (bn 10 (bn 9 (bl 8 (a_iload 2 9)) (bl 9 (a_aload 0 10))) (bn 13 (bl 10 (a_getf zG0 zT0 3 6 13)) (bn 16 (bl 13 (a_icmp 1 34 16)) (bl 16 (a_iload 1 17)))))) (bn 25 (bn 21 (bn 18 (bl 17 (a_aload 0 18)) (bl 18 (a_getf zG0 zT0 3 7 21))) (bn 24 (bl 21 (a_icmp 3 34 24)) (bl 24 (a_aload 0 25)))) (bn 29 (bn 26 (bl 25 (a_iload 2 26)) (bl 26 (a_puti zG0 zT0 zprot 3 6 0 29))) (bn 30 (bl 29 (a_aload 0 30)) (bn 31 (bl 30 (a_iload 1 31)) (bl 31 (a_puti zG0 zT0 zprot 3 7 0 34))))))
set_option maxRecDepth 100000 in
set_option maxHeartbeats 4000000 in
theorem zTo_22 {pre : zPre} {post : zPost} (H : zTieC pre post) {d : Nat × Nat × Nat} (hd : zLe (0, 0, 0) d) : aTr zG0 zT0 zInv (false, false) PZ zbd pre post d prog_5_method_10_code "CapitalCase$Planner" zTr_22 := (xB_n (xB_n (xB_n (xB_n (xB_l ⟨_, zs_iload_n em22_0, as_iload⟩) (xB_l ⟨_, zs_aload_n em22_1, as_aload⟩)) (xB_n (xB_l ⟨_, zs_getf (T := TX3) (M := 12) (ci := 3) (j := 6) em22_2 rfl inX3 (by decide) wd_461 ((congrFun xo_4 42).trans rfl), as_getf zTie⟩) (xB_l ⟨_, zs_icmpgt em22_5 (t := 24) (by decide), as_icmp⟩))) (xB_n (xB_n (xB_l ⟨_, zs_iload_n em22_8, as_iload⟩) (xB_l ⟨_, zs_aload_n em22_9, as_aload⟩)) (xB_n (xB_l ⟨_, zs_getf (T := TX3) (M := 12) (ci := 3) (j := 6) em22_10 rfl inX3 (by decide) wd_461 ((congrFun xo_4 42).trans rfl), as_getf zTie⟩) (xB_n (xB_l ⟨_, zs_icmpne em22_13 (t := 34) (by decide), as_icmp⟩) (xB_l ⟨_, zs_iload_n em22_16, as_iload⟩))))) (xB_n (xB_n (xB_n (xB_l ⟨_, zs_aload_n em22_17, as_aload⟩) (xB_l ⟨_, zs_getf (T := TX3) (M := 12) (ci := 3) (j := 7) em22_18 rfl inX3 (by decide) wd_464 ((congrFun xo_4 45).trans rfl), as_getf zTie⟩)) (xB_n (xB_l ⟨_, zs_icmpge em22_21 (t := 34) (by decide), as_icmp⟩) (xB_l ⟨_, zs_aload_n em22_24, as_aload⟩))) (xB_n (xB_n (xB_l ⟨_, zs_iload_n em22_25, as_iload⟩) (xB_l ⟨_, zs_puti zInj0 (T := TX3) (M := 12) (ty := tyX3) (ci := 3) (j := 6) (kd := 0) em22_26 rfl inX3 tyX3_ok nmX3 (by decide) wd_461 (Or.inl ⟨rfl, rfl⟩) rfl ((congrFun xo_4 42).trans rfl), ag_puti0⟩)) (xB_n (xB_l ⟨_, zs_aload_n em22_29, as_aload⟩) (xB_n (xB_l ⟨_, zs_iload_n em22_30, as_iload⟩) (xB_l ⟨_, zs_puti zInj0 (T := TX3) (M := 12) (ty := tyX3) (ci := 3) (j := 7) (kd := 0) em22_31 rfl inX3 tyX3_ok nmX3 (by decide) wd_464 (Or.inl ⟨rfl, rfl⟩) rfl ((congrFun xo_4 45).trans rfl), ag_puti0⟩))))))
set_option maxRecDepth 100000 in
set_option maxHeartbeats 4000000 in
theorem zM_22 : zOKa 22 zc_22 := z_auto (cuts := []) (rets := [(34, 3)]) (fuel := 1000) rfl rfl (by decide) (xrt_ok (xR_c (Or.inr (Or.inr (Or.inl ⟨rfl, em22_34, rfl⟩))) (xR_n))) (fun _ _ H _ hd => zTo_22 H hd) (by decide +kernel)
theorem em23_0 : decode prog_5_method_11_code 0 = .ok (.bipush 6, 2) := by decide +kernel
theorem em23_2 : decode prog_5_method_11_code 2 = .ok (.istore_n 1, 1) := by decide +kernel
theorem em23_3 : decode prog_5_method_11_code 3 = .ok (.iload_n 1, 1) := by decide +kernel
theorem em23_4 : decode prog_5_method_11_code 4 = .ok (.ifCond .le 15, 3) := by decide +kernel
theorem em23_7 : decode prog_5_method_11_code 7 = .ok (.iload_n 0, 1) := by decide +kernel
theorem em23_8 : decode prog_5_method_11_code 8 = .ok (.iload_n 1, 1) := by decide +kernel
theorem em23_9 : decode prog_5_method_11_code 9 = .ok (.ishr, 1) := by decide +kernel
theorem em23_10 : decode prog_5_method_11_code 10 = .ok (.ifCond .ne 9, 3) := by decide +kernel
theorem em23_13 : decode prog_5_method_11_code 13 = .ok (.iinc 1 (-1), 3) := by decide +kernel
theorem em23_16 : decode prog_5_method_11_code 16 = .ok (.goto (-13), 3) := by decide +kernel
theorem em23_19 : decode prog_5_method_11_code 19 = .ok (.iload_n 1, 1) := by decide +kernel
theorem em23_20 : decode prog_5_method_11_code 20 = .ok (.ireturn, 1) := by decide +kernel
/-! CapitalCase$Planner.lastOf:(I)I -/
noncomputable def zTr_23 : Nat → Option aF := bn 8 (bn 3 (bn 2 (bl 0 (a_const 6 2)) (bl 2 (a_istore 1 3))) (bn 4 (bl 3 (a_iload 1 4)) (bn 7 (bl 4 (a_if 5 19 7)) (bl 7 (a_iload 0 8))))) (bn 13 (bn 9 (bl 8 (a_iload 1 9)) (bn 10 (bl 9 (a_bin fany 10)) (bl 10 (a_if 1 19 13)))) (bn 16 (bl 13 (a_iinc 1 (-1) 16)) (bn 19 (bl 16 (a_goto 3)) (bl 19 (a_iload 1 20)))))
set_option maxRecDepth 100000 in
set_option maxHeartbeats 4000000 in
theorem zTo_23 {pre : zPre} {post : zPost} (H : zTieC pre post) {d : Nat × Nat × Nat} (hd : zLe (0, 0, 0) d) : aTr zG0 zT0 zInv (false, false) PZ zbd pre post d prog_5_method_11_code "CapitalCase$Planner" zTr_23 := (xB_n (xB_n (xB_n (xB_l ⟨_, zs_bipush (v := 6) em23_0 (by decide +kernel), as_const (by decide +kernel)⟩) (xB_l ⟨_, zs_istore_n em23_2, as_istore⟩)) (xB_n (xB_l ⟨_, zs_iload_n em23_3, as_iload⟩) (xB_n (xB_l ⟨_, zs_ifle em23_4 (t := 19) (by decide), as_if⟩) (xB_l ⟨_, zs_iload_n em23_7, as_iload⟩)))) (xB_n (xB_n (xB_l ⟨_, zs_iload_n em23_8, as_iload⟩) (xB_n (xB_l ⟨_, zs_ishr em23_9, as_bin fany_ok⟩) (xB_l ⟨_, zs_ifne em23_10 (t := 19) (by decide), as_if⟩))) (xB_n (xB_l ⟨_, zs_iinc (k := (-1)) em23_13 (by decide +kernel), as_iinc (by decide +kernel)⟩) (xB_n (xB_l ⟨_, zs_goto em23_16 (t := 3) (by decide), as_goto⟩) (xB_l ⟨_, zs_iload_n em23_19, as_iload⟩)))))
set_option maxRecDepth 100000 in
set_option maxHeartbeats 4000000 in
theorem zM_23 : zOKa 23 zc_23 := z_auto (cuts := [(3, ([(0, 0), ((-2147483648), 2147483647), (0, 6)], [], [some (.inl (1, 0)), some (.inl (2, 0))], [], [], (0, 0)), [(0, 1)], 0, [0, 0, 1])]) (rets := [(20, 1)]) (fuel := 1000) rfl rfl (by decide) (xrt_ok (xR_c (Or.inl ⟨rfl, em23_20, rfl⟩) (xR_n))) (fun _ _ H _ hd => zTo_23 H hd) (by decide +kernel)
theorem em25_0 : decode prog_5_method_5_code 0 = .ok (.iload_n 1, 1) := by decide +kernel
theorem em25_1 : decode prog_5_method_5_code 1 = .ok (.bipush 8, 2) := by decide +kernel
theorem em25_3 : decode prog_5_method_5_code 3 = .ok (.imul, 1) := by decide +kernel
theorem em25_4 : decode prog_5_method_5_code 4 = .ok (.iload_n 2, 1) := by decide +kernel
theorem em25_5 : decode prog_5_method_5_code 5 = .ok (.iadd, 1) := by decide +kernel
theorem em25_6 : decode prog_5_method_5_code 6 = .ok (.iconst 5, 1) := by decide +kernel
theorem em25_7 : decode prog_5_method_5_code 7 = .ok (.imul, 1) := by decide +kernel
theorem em25_8 : decode prog_5_method_5_code 8 = .ok (.istore_n 3, 1) := by decide +kernel
theorem em25_9 : decode prog_5_method_5_code 9 = .ok (.iload_n 3, 1) := by decide +kernel
theorem em25_10 : decode prog_5_method_5_code 10 = .ok (.aload_n 0, 1) := by decide +kernel
theorem em25_11 : decode prog_5_method_5_code 11 = .ok (.getfield 27, 3) := by decide +kernel
theorem em25_14 : decode prog_5_method_5_code 14 = .ok (.iload_n 1, 1) := by decide +kernel
theorem em25_15 : decode prog_5_method_5_code 15 = .ok (.bipush 8, 2) := by decide +kernel
theorem em25_17 : decode prog_5_method_5_code 17 = .ok (.imul, 1) := by decide +kernel
theorem em25_18 : decode prog_5_method_5_code 18 = .ok (.iload_n 2, 1) := by decide +kernel
theorem em25_19 : decode prog_5_method_5_code 19 = .ok (.iadd, 1) := by decide +kernel
theorem em25_20 : decode prog_5_method_5_code 20 = .ok (.iaload, 1) := by decide +kernel
theorem em25_21 : decode prog_5_method_5_code 21 = .ok (.iadd, 1) := by decide +kernel
theorem em25_22 : decode prog_5_method_5_code 22 = .ok (.istore 4, 2) := by decide +kernel
theorem em25_24 : decode prog_5_method_5_code 24 = .ok (.iconst (-1), 1) := by decide +kernel
theorem em25_25 : decode prog_5_method_5_code 25 = .ok (.istore 5, 2) := by decide +kernel
theorem em25_27 : decode prog_5_method_5_code 27 = .ok (.iload_n 3, 1) := by decide +kernel
theorem em25_28 : decode prog_5_method_5_code 28 = .ok (.istore 6, 2) := by decide +kernel
theorem em25_30 : decode prog_5_method_5_code 30 = .ok (.iload 6, 2) := by decide +kernel
theorem em25_32 : decode prog_5_method_5_code 32 = .ok (.iload 4, 2) := by decide +kernel
theorem em25_34 : decode prog_5_method_5_code 34 = .ok (.if_icmp .ge 76, 3) := by decide +kernel
theorem em25_37 : decode prog_5_method_5_code 37 = .ok (.aload_n 0, 1) := by decide +kernel
theorem em25_38 : decode prog_5_method_5_code 38 = .ok (.getfield 9, 3) := by decide +kernel
theorem em25_41 : decode prog_5_method_5_code 41 = .ok (.aload_n 0, 1) := by decide +kernel
theorem em25_42 : decode prog_5_method_5_code 42 = .ok (.getfield 21, 3) := by decide +kernel
theorem em25_45 : decode prog_5_method_5_code 45 = .ok (.iload 6, 2) := by decide +kernel
theorem em25_47 : decode prog_5_method_5_code 47 = .ok (.iaload, 1) := by decide +kernel
theorem em25_48 : decode prog_5_method_5_code 48 = .ok (.bipush 8, 2) := by decide +kernel
theorem em25_50 : decode prog_5_method_5_code 50 = .ok (.imul, 1) := by decide +kernel
theorem em25_51 : decode prog_5_method_5_code 51 = .ok (.iload_n 2, 1) := by decide +kernel
theorem em25_52 : decode prog_5_method_5_code 52 = .ok (.iadd, 1) := by decide +kernel
theorem em25_53 : decode prog_5_method_5_code 53 = .ok (.iaload, 1) := by decide +kernel
theorem em25_54 : decode prog_5_method_5_code 54 = .ok (.ifCond .ne 6, 3) := by decide +kernel
theorem em25_57 : decode prog_5_method_5_code 57 = .ok (.goto 47, 3) := by decide +kernel
theorem em25_60 : decode prog_5_method_5_code 60 = .ok (.iload 5, 2) := by decide +kernel
theorem em25_62 : decode prog_5_method_5_code 62 = .ok (.iconst (-1), 1) := by decide +kernel
theorem em25_63 : decode prog_5_method_5_code 63 = .ok (.if_icmp .eq 37, 3) := by decide +kernel
theorem em25_66 : decode prog_5_method_5_code 66 = .ok (.aload_n 0, 1) := by decide +kernel
theorem em25_67 : decode prog_5_method_5_code 67 = .ok (.dup, 1) := by decide +kernel
theorem em25_68 : decode prog_5_method_5_code 68 = .ok (.getfield 84, 3) := by decide +kernel
theorem em25_71 : decode prog_5_method_5_code 71 = .ok (.aload_n 0, 1) := by decide +kernel
theorem em25_72 : decode prog_5_method_5_code 72 = .ok (.getfield 24, 3) := by decide +kernel
theorem em25_75 : decode prog_5_method_5_code 75 = .ok (.iload 6, 2) := by decide +kernel
theorem em25_77 : decode prog_5_method_5_code 77 = .ok (.iaload, 1) := by decide +kernel
theorem em25_78 : decode prog_5_method_5_code 78 = .ok (.aload_n 0, 1) := by decide +kernel
theorem em25_79 : decode prog_5_method_5_code 79 = .ok (.getfield 24, 3) := by decide +kernel
theorem em25_82 : decode prog_5_method_5_code 82 = .ok (.iload 5, 2) := by decide +kernel
theorem em25_84 : decode prog_5_method_5_code 84 = .ok (.iaload, 1) := by decide +kernel
theorem em25_85 : decode prog_5_method_5_code 85 = .ok (.if_icmp .ne 7, 3) := by decide +kernel
theorem em25_88 : decode prog_5_method_5_code 88 = .ok (.iconst 1, 1) := by decide +kernel
theorem em25_89 : decode prog_5_method_5_code 89 = .ok (.goto 4, 3) := by decide +kernel
theorem em25_92 : decode prog_5_method_5_code 92 = .ok (.iconst 0, 1) := by decide +kernel
theorem em25_93 : decode prog_5_method_5_code 93 = .ok (.iadd, 1) := by decide +kernel
theorem em25_94 : decode prog_5_method_5_code 94 = .ok (.putfield 84, 3) := by decide +kernel
theorem em25_97 : decode prog_5_method_5_code 97 = .ok (.goto 13, 3) := by decide +kernel
theorem em25_100 : decode prog_5_method_5_code 100 = .ok (.iload 6, 2) := by decide +kernel
theorem em25_102 : decode prog_5_method_5_code 102 = .ok (.istore 5, 2) := by decide +kernel
theorem em25_104 : decode prog_5_method_5_code 104 = .ok (.iinc 6 1, 3) := by decide +kernel
theorem em25_107 : decode prog_5_method_5_code 107 = .ok (.goto (-77), 3) := by decide +kernel
theorem em25_110 : decode prog_5_method_5_code 110 = .ok (.iload 5, 2) := by decide +kernel
theorem em25_112 : decode prog_5_method_5_code 112 = .ok (.iconst (-1), 1) := by decide +kernel
theorem em25_113 : decode prog_5_method_5_code 113 = .ok (.if_icmp .ne 7, 3) := by decide +kernel
theorem em25_116 : decode prog_5_method_5_code 116 = .ok (.iconst (-1), 1) := by decide +kernel
theorem em25_117 : decode prog_5_method_5_code 117 = .ok (.goto 10, 3) := by decide +kernel
theorem em25_120 : decode prog_5_method_5_code 120 = .ok (.aload_n 0, 1) := by decide +kernel
theorem em25_121 : decode prog_5_method_5_code 121 = .ok (.getfield 21, 3) := by decide +kernel
theorem em25_124 : decode prog_5_method_5_code 124 = .ok (.iload 5, 2) := by decide +kernel
theorem em25_126 : decode prog_5_method_5_code 126 = .ok (.iaload, 1) := by decide +kernel
theorem em25_127 : decode prog_5_method_5_code 127 = .ok (.ireturn, 1) := by decide +kernel
/-! CapitalCase$Planner.pick:(II)I -/
noncomputable def zTr_25 : Nat → Option aF := bn 53 (bn 22 (bn 10 (bn 5 (bn 3 (bn 1 (bl 0 (a_iload 1 1)) (bl 1 (a_const 8 3))) (bn 4 (bl 3 (a_bin fmul 4)) (bl 4 (a_iload 2 5)))) (bn 7 (bn 6 (bl 5 (a_bin fadd 6)) (bl 6 (a_const 5 7))) (bn 8 (bl 7 (a_bin fmul 8)) (bn 9 (bl 8 (a_istore 3 9)) (bl 9 (a_iload 3 10)))))) (bn 17 (bn 14 (bn 11 (bl 10 (a_aload 0 11)) (bl 11 (a_getf zG0 zT0 3 11 14))) (bn 15 (bl 14 (a_iload 1 15)) (bl 15 (a_const 8 17)))) (bn 19 (bn 18 (bl 17 (a_bin fmul 18)) (bl 18 (a_iload 2 19))) (bn 20 (bl 19 (a_bin fadd 20)) (bn 21 (bl 20 (a_ald zG0 zT0 (false, false) ts0 21)) (bl 21 (a_bin fadd 22))))))) (bn 38 (bn 28 (bn 25 (bn 24 (bl 22 (a_istore 4 24)) (bl 24 (a_const (-1) 25))) (bn 27 (bl 25 (a_istore 5 27)) (bl 27 (a_iload 3 28)))) (bn 32 (bn 30 (bl 28 (a_istore 6 30)) (bl 30 (a_iload 6 32))) (bn 34 (bl 32 (a_iload 4 34)) (bn 37 (bl 34 (a_icmp 3 110 37)) (bl 37 (a_aload 0 38)))))) (bn 47 (bn 42 (bn 41 (bl 38 (a_getf zG0 zT0 3 2 41)) (bl 41 (a_aload 0 42))) (bn 45 (bl 42 (a_getf zG0 zT0 3 9 45)) (bl 45 (a_iload 6 47)))) (bn 50 (bn 48 (bl 47 (a_ald zG0 zT0 (false, false) ts0 48)) (bl 48 (a_const 8 50))) (bn 51 (bl 50 (a_bin fmul 51)) (bn 52 (bl 51 (a_iload 2 52)) (bl 52 (a_bin fadd 53)))))))) (bn 88 (bn 71 (bn 62 (bn 57 (bn 54 (bl 53 (a_ald zG0 zT0 (false, false) ts0 54)) (bl 54 (a_if 1 60 57))) (bn 60 (bl 57 (a_goto 104)) (bl 60 (a_iload 5 62)))) (bn 66 (bn 63 (bl 62 (a_const (-1) 63)) (bl 63 (a_icmp 0 100 66))) (bn 67 (bl 66 (a_aload 0 67)) (bn 68 (bl 67 (a_dup 68)) (bl 68 (a_getf zG0 zT0 3 5 71)))))) (bn 78 (bn 75 (bn 72 (bl 71 (a_aload 0 72)) (bl 72 (a_getf zG0 zT0 3 10 75))) (bn 77 (bl 75 (a_iload 6 77)) (bl 77 (a_ald zG0 zT0 (false, false) ts0 78)))) (bn 82 (bn 79 (bl 78 (a_aload 0 79)) (bl 79 (a_getf zG0 zT0 3 10 82))) (bn 84 (bl 82 (a_iload 5 84)) (bn 85 (bl 84 (a_ald zG0 zT0 (false, false) ts0 85)) (bl 85 (a_icmp 1 92 88))))))) (bn 107 (bn 94 (bn 92 (bn 89 (bl 88 (a_const 1 89)) (bl 89 (a_goto 93))) (bn 93 (bl 92 (a_const 0 93)) (bl 93 (a_bin fadd 94)))) (bn 100 (bn 97 (bl 94 (a_puti zG0 zT0 zprot 3 5 0 97)) (bl 97 (a_goto 110))) (bn 102 (bl 100 (a_iload 6 102)) (bn 104 (bl 102 (a_istore 5 104)) (bl 104 (a_iinc 6 1 107)))))) (bn 117 (bn 112 (bn 110 (bl 107 (a_goto 30)) (bl 110 (a_iload 5 112))) (bn 113 (bl 112 (a_const (-1) 113)) (bn 116 (bl 113 (a_icmp 1 120 116)) (bl 116 (a_const (-1) 117))))) (bn 121 (bn 120 (bl 117 (a_goto 127)) (bl 120 (a_aload 0 121))) (bn 124 (bl 121 (a_getf zG0 zT0 3 9 124)) (bn 126 (bl 124 (a_iload 5 126)) (bl 126 (a_ald zG0 zT0 (false, false) ts0 127))))))))
set_option maxRecDepth 100000 in
set_option maxHeartbeats 4000000 in
theorem zTo_25 {pre : zPre} {post : zPost} (H : zTieC pre post) {d : Nat × Nat × Nat} (hd : zLe (0, 0, 0) d) : aTr zG0 zT0 zInv (false, false) PZ zbd pre post d prog_5_method_5_code "CapitalCase$Planner" zTr_25 := (xB_n (xB_n (xB_n (xB_n (xB_n (xB_n (xB_l ⟨_, zs_iload_n em25_0, as_iload⟩) (xB_l ⟨_, zs_bipush (v := 8) em25_1 (by decide +kernel), as_const (by decide +kernel)⟩)) (xB_n (xB_l ⟨_, zs_imul em25_3, as_bin fmul_ok⟩) (xB_l ⟨_, zs_iload_n em25_4, as_iload⟩))) (xB_n (xB_n (xB_l ⟨_, zs_iadd em25_5, as_bin fadd_ok⟩) (xB_l ⟨_, zs_iconst (v := 5) em25_6 (by decide +kernel), as_const (by decide +kernel)⟩)) (xB_n (xB_l ⟨_, zs_imul em25_7, as_bin fmul_ok⟩) (xB_n (xB_l ⟨_, zs_istore_n em25_8, as_istore⟩) (xB_l ⟨_, zs_iload_n em25_9, as_iload⟩))))) (xB_n (xB_n (xB_n (xB_l ⟨_, zs_aload_n em25_10, as_aload⟩) (xB_l ⟨_, zs_getf (T := TX3) (M := 12) (ci := 3) (j := 11) em25_11 rfl inX3 (by decide) wd_469 ((congrFun xo_4 27).trans rfl), as_getf zTie⟩)) (xB_n (xB_l ⟨_, zs_iload_n em25_14, as_iload⟩) (xB_l ⟨_, zs_bipush (v := 8) em25_15 (by decide +kernel), as_const (by decide +kernel)⟩))) (xB_n (xB_n (xB_l ⟨_, zs_imul em25_17, as_bin fmul_ok⟩) (xB_l ⟨_, zs_iload_n em25_18, as_iload⟩)) (xB_n (xB_l ⟨_, zs_iadd em25_19, as_bin fadd_ok⟩) (xB_n (xB_l ⟨_, zs_iald em25_20, ag_iald⟩) (xB_l ⟨_, zs_iadd em25_21, as_bin fadd_ok⟩)))))) (xB_n (xB_n (xB_n (xB_n (xB_l ⟨_, zs_istore em25_22, as_istore⟩) (xB_l ⟨_, zs_iconst (v := (-1)) em25_24 (by decide +kernel), as_const (by decide +kernel)⟩)) (xB_n (xB_l ⟨_, zs_istore em25_25, as_istore⟩) (xB_l ⟨_, zs_iload_n em25_27, as_iload⟩))) (xB_n (xB_n (xB_l ⟨_, zs_istore em25_28, as_istore⟩) (xB_l ⟨_, zs_iload em25_30, as_iload⟩)) (xB_n (xB_l ⟨_, zs_iload em25_32, as_iload⟩) (xB_n (xB_l ⟨_, zs_icmpge em25_34 (t := 110) (by decide), as_icmp⟩) (xB_l ⟨_, zs_aload_n em25_37, as_aload⟩))))) (xB_n (xB_n (xB_n (xB_l ⟨_, zs_getf (T := TX3) (M := 12) (ci := 3) (j := 2) em25_38 rfl inX3 (by decide) wd_453 ((congrFun xo_4 9).trans rfl), as_getf zTie⟩) (xB_l ⟨_, zs_aload_n em25_41, as_aload⟩)) (xB_n (xB_l ⟨_, zs_getf (T := TX3) (M := 12) (ci := 3) (j := 9) em25_42 rfl inX3 (by decide) wd_467 ((congrFun xo_4 21).trans rfl), as_getf zTie⟩) (xB_l ⟨_, zs_iload em25_45, as_iload⟩))) (xB_n (xB_n (xB_l ⟨_, zs_iald em25_47, ag_iald⟩) (xB_l ⟨_, zs_bipush (v := 8) em25_48 (by decide +kernel), as_const (by decide +kernel)⟩)) (xB_n (xB_l ⟨_, zs_imul em25_50, as_bin fmul_ok⟩) (xB_n (xB_l ⟨_, zs_iload_n em25_51, as_iload⟩) (xB_l ⟨_, zs_iadd em25_52, as_bin fadd_ok⟩))))))) (xB_n (xB_n (xB_n (xB_n (xB_n (xB_l ⟨_, zs_iald em25_53, ag_iald⟩) (xB_l ⟨_, zs_ifne em25_54 (t := 60) (by decide), as_if⟩)) (xB_n (xB_l ⟨_, zs_goto em25_57 (t := 104) (by decide), as_goto⟩) (xB_l ⟨_, zs_iload em25_60, as_iload⟩))) (xB_n (xB_n (xB_l ⟨_, zs_iconst (v := (-1)) em25_62 (by decide +kernel), as_const (by decide +kernel)⟩) (xB_l ⟨_, zs_icmpeq em25_63 (t := 100) (by decide), as_icmp⟩)) (xB_n (xB_l ⟨_, zs_aload_n em25_66, as_aload⟩) (xB_n (xB_l ⟨_, zs_dup em25_67, as_dup⟩) (xB_l ⟨_, zs_getf (T := TX3) (M := 12) (ci := 3) (j := 5) em25_68 rfl inX3 (by decide) wd_459 ((congrFun xo_4 84).trans rfl), as_getf zTie⟩))))) (xB_n (xB_n (xB_n (xB_l ⟨_, zs_aload_n em25_71, as_aload⟩) (xB_l ⟨_, zs_getf (T := TX3) (M := 12) (ci := 3) (j := 10) em25_72 rfl inX3 (by decide) wd_468 ((congrFun xo_4 24).trans rfl), as_getf zTie⟩)) (xB_n (xB_l ⟨_, zs_iload em25_75, as_iload⟩) (xB_l ⟨_, zs_iald em25_77, ag_iald⟩))) (xB_n (xB_n (xB_l ⟨_, zs_aload_n em25_78, as_aload⟩) (xB_l ⟨_, zs_getf (T := TX3) (M := 12) (ci := 3) (j := 10) em25_79 rfl inX3 (by decide) wd_468 ((congrFun xo_4 24).trans rfl), as_getf zTie⟩)) (xB_n (xB_l ⟨_, zs_iload em25_82, as_iload⟩) (xB_n (xB_l ⟨_, zs_iald em25_84, ag_iald⟩) (xB_l ⟨_, zs_icmpne em25_85 (t := 92) (by decide), as_icmp⟩)))))) (xB_n (xB_n (xB_n (xB_n (xB_l ⟨_, zs_iconst (v := 1) em25_88 (by decide +kernel), as_const (by decide +kernel)⟩) (xB_l ⟨_, zs_goto em25_89 (t := 93) (by decide), as_goto⟩)) (xB_n (xB_l ⟨_, zs_iconst (v := 0) em25_92 (by decide +kernel), as_const (by decide +kernel)⟩) (xB_l ⟨_, zs_iadd em25_93, as_bin fadd_ok⟩))) (xB_n (xB_n (xB_l ⟨_, zs_puti zInj0 (T := TX3) (M := 12) (ty := tyX3) (ci := 3) (j := 5) (kd := 0) em25_94 rfl inX3 tyX3_ok nmX3 (by decide) wd_459 (Or.inl ⟨rfl, rfl⟩) rfl ((congrFun xo_4 84).trans rfl), ag_puti0⟩) (xB_l ⟨_, zs_goto em25_97 (t := 110) (by decide), as_goto⟩)) (xB_n (xB_l ⟨_, zs_iload em25_100, as_iload⟩) (xB_n (xB_l ⟨_, zs_istore em25_102, as_istore⟩) (xB_l ⟨_, zs_iinc (k := 1) em25_104 (by decide +kernel), as_iinc (by decide +kernel)⟩))))) (xB_n (xB_n (xB_n (xB_l ⟨_, zs_goto em25_107 (t := 30) (by decide), as_goto⟩) (xB_l ⟨_, zs_iload em25_110, as_iload⟩)) (xB_n (xB_l ⟨_, zs_iconst (v := (-1)) em25_112 (by decide +kernel), as_const (by decide +kernel)⟩) (xB_n (xB_l ⟨_, zs_icmpne em25_113 (t := 120) (by decide), as_icmp⟩) (xB_l ⟨_, zs_iconst (v := (-1)) em25_116 (by decide +kernel), as_const (by decide +kernel)⟩)))) (xB_n (xB_n (xB_l ⟨_, zs_goto em25_117 (t := 127) (by decide), as_goto⟩) (xB_l ⟨_, zs_aload_n em25_120, as_aload⟩)) (xB_n (xB_l ⟨_, zs_getf (T := TX3) (M := 12) (ci := 3) (j := 9) em25_121 rfl inX3 (by decide) wd_467 ((congrFun xo_4 21).trans rfl), as_getf zTie⟩) (xB_n (xB_l ⟨_, zs_iload em25_124, as_iload⟩) (xB_l ⟨_, zs_iald em25_126, ag_iald⟩))))))))
set_option maxRecDepth 100000 in
set_option maxHeartbeats 4000000 in
theorem zM_25 : zOKa 25 zc_25 := z_auto (cuts := [(30, ([(0, 0), (0, 6), (0, 7), (0, 275), (0, 280), ((-1), 279), (0, 280)], [], [some (.inr (.inl (1, 2000))), some (.inl (1, 0)), some (.inl (2, 0)), some (.inl (3, 0)), some (.inl (4, 0)), some (.inl (5, 0)), some (.inl (6, 0))], [], [], (0, 0)), [(0, 3), (0, 4), (0, 5), (0, 6)], 280, [0, 0, 0, 0, 0, 0, (-1)])]) (rets := [(127, 1)]) (fuel := 1000) rfl rfl (by decide) (xrt_ok (xR_c (Or.inl ⟨rfl, em25_127, rfl⟩) (xR_n))) (fun _ _ H _ hd => zTo_25 H hd) (by decide +kernel)
