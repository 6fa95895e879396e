theorem em26_0 : decode prog_5_method_2_code 0 = .ok (.aload_n 0, 1) := by decide +kernel
theorem em26_1 : decode prog_5_method_2_code 1 = .ok (.iload_n 2, 1) := by decide +kernel
theorem em26_2 : decode prog_5_method_2_code 2 = .ok (.putfield 38, 3) := by decide +kernel
theorem em26_5 : decode prog_5_method_2_code 5 = .ok (.aload_n 0, 1) := by decide +kernel
theorem em26_6 : decode prog_5_method_2_code 6 = .ok (.iconst 0, 1) := by decide +kernel
theorem em26_7 : decode prog_5_method_2_code 7 = .ok (.putfield 42, 3) := by decide +kernel
theorem em26_10 : decode prog_5_method_2_code 10 = .ok (.aload_n 0, 1) := by decide +kernel
theorem em26_11 : decode prog_5_method_2_code 11 = .ok (.iconst 0, 1) := by decide +kernel
theorem em26_12 : decode prog_5_method_2_code 12 = .ok (.putfield 45, 3) := by decide +kernel
theorem em26_15 : decode prog_5_method_2_code 15 = .ok (.iconst 0, 1) := by decide +kernel
theorem em26_16 : decode prog_5_method_2_code 16 = .ok (.istore_n 3, 1) := by decide +kernel
theorem em26_17 : decode prog_5_method_2_code 17 = .ok (.iload_n 3, 1) := by decide +kernel
theorem em26_18 : decode prog_5_method_2_code 18 = .ok (.bipush 40, 2) := by decide +kernel
theorem em26_20 : decode prog_5_method_2_code 20 = .ok (.if_icmp .ge 20, 3) := by decide +kernel
theorem em26_23 : decode prog_5_method_2_code 23 = .ok (.aload_n 0, 1) := by decide +kernel
theorem em26_24 : decode prog_5_method_2_code 24 = .ok (.getfield 9, 3) := by decide +kernel
theorem em26_27 : decode prog_5_method_2_code 27 = .ok (.iload_n 3, 1) := by decide +kernel
theorem em26_28 : decode prog_5_method_2_code 28 = .ok (.aload_n 1, 1) := by decide +kernel
theorem em26_29 : decode prog_5_method_2_code 29 = .ok (.iload_n 3, 1) := by decide +kernel
theorem em26_30 : decode prog_5_method_2_code 30 = .ok (.invokevirtual 48, 3) := by decide +kernel
theorem em26_33 : decode prog_5_method_2_code 33 = .ok (.iastore, 1) := by decide +kernel
theorem em26_34 : decode prog_5_method_2_code 34 = .ok (.iinc 3 1, 3) := by decide +kernel
theorem em26_37 : decode prog_5_method_2_code 37 = .ok (.goto (-20), 3) := by decide +kernel
theorem em26_40 : decode prog_5_method_2_code 40 = .ok (.iconst 0, 1) := by decide +kernel
theorem em26_41 : decode prog_5_method_2_code 41 = .ok (.istore_n 3, 1) := by decide +kernel
theorem em26_42 : decode prog_5_method_2_code 42 = .ok (.iload_n 3, 1) := by decide +kernel
theorem em26_43 : decode prog_5_method_2_code 43 = .ok (.aload_n 0, 1) := by decide +kernel
theorem em26_44 : decode prog_5_method_2_code 44 = .ok (.getfield 30, 3) := by decide +kernel
theorem em26_47 : decode prog_5_method_2_code 47 = .ok (.getfield 53, 3) := by decide +kernel
theorem em26_50 : decode prog_5_method_2_code 50 = .ok (.if_icmp .ge 80, 3) := by decide +kernel
theorem em26_53 : decode prog_5_method_2_code 53 = .ok (.iload_n 2, 1) := by decide +kernel
theorem em26_54 : decode prog_5_method_2_code 54 = .ok (.iload_n 3, 1) := by decide +kernel
theorem em26_55 : decode prog_5_method_2_code 55 = .ok (.ishr, 1) := by decide +kernel
theorem em26_56 : decode prog_5_method_2_code 56 = .ok (.iconst 1, 1) := by decide +kernel
theorem em26_57 : decode prog_5_method_2_code 57 = .ok (.iand, 1) := by decide +kernel
theorem em26_58 : decode prog_5_method_2_code 58 = .ok (.ifCond .ne 6, 3) := by decide +kernel
theorem em26_61 : decode prog_5_method_2_code 61 = .ok (.goto 63, 3) := by decide +kernel
theorem em26_64 : decode prog_5_method_2_code 64 = .ok (.aload_n 0, 1) := by decide +kernel
theorem em26_65 : decode prog_5_method_2_code 65 = .ok (.getfield 18, 3) := by decide +kernel
theorem em26_68 : decode prog_5_method_2_code 68 = .ok (.iload_n 3, 1) := by decide +kernel
theorem em26_69 : decode prog_5_method_2_code 69 = .ok (.aload_n 0, 1) := by decide +kernel
theorem em26_70 : decode prog_5_method_2_code 70 = .ok (.getfield 34, 3) := by decide +kernel
theorem em26_73 : decode prog_5_method_2_code 73 = .ok (.iload_n 3, 1) := by decide +kernel
theorem em26_74 : decode prog_5_method_2_code 74 = .ok (.aload_n 1, 1) := by decide +kernel
theorem em26_75 : decode prog_5_method_2_code 75 = .ok (.getfield 58, 3) := by decide +kernel
theorem em26_78 : decode prog_5_method_2_code 78 = .ok (.invokevirtual 61, 3) := by decide +kernel
theorem em26_81 : decode prog_5_method_2_code 81 = .ok (.iastore, 1) := by decide +kernel
theorem em26_82 : decode prog_5_method_2_code 82 = .ok (.iconst 0, 1) := by decide +kernel
theorem em26_83 : decode prog_5_method_2_code 83 = .ok (.istore 4, 2) := by decide +kernel
theorem em26_85 : decode prog_5_method_2_code 85 = .ok (.iload 4, 2) := by decide +kernel
theorem em26_87 : decode prog_5_method_2_code 87 = .ok (.bipush 8, 2) := by decide +kernel
theorem em26_89 : decode prog_5_method_2_code 89 = .ok (.if_icmp .ge 35, 3) := by decide +kernel
theorem em26_92 : decode prog_5_method_2_code 92 = .ok (.aload_n 0, 1) := by decide +kernel
theorem em26_93 : decode prog_5_method_2_code 93 = .ok (.getfield 30, 3) := by decide +kernel
theorem em26_96 : decode prog_5_method_2_code 96 = .ok (.getfield 66, 3) := by decide +kernel
theorem em26_99 : decode prog_5_method_2_code 99 = .ok (.iload_n 3, 1) := by decide +kernel
theorem em26_100 : decode prog_5_method_2_code 100 = .ok (.bipush 8, 2) := by decide +kernel
theorem em26_102 : decode prog_5_method_2_code 102 = .ok (.imul, 1) := by decide +kernel
theorem em26_103 : decode prog_5_method_2_code 103 = .ok (.iload 4, 2) := by decide +kernel
theorem em26_105 : decode prog_5_method_2_code 105 = .ok (.iadd, 1) := by decide +kernel
theorem em26_106 : decode prog_5_method_2_code 106 = .ok (.iaload, 1) := by decide +kernel
theorem em26_107 : decode prog_5_method_2_code 107 = .ok (.ifCond .le 11, 3) := by decide +kernel
theorem em26_110 : decode prog_5_method_2_code 110 = .ok (.aload_n 0, 1) := by decide +kernel
theorem em26_111 : decode prog_5_method_2_code 111 = .ok (.aload_n 1, 1) := by decide +kernel
theorem em26_112 : decode prog_5_method_2_code 112 = .ok (.iload_n 3, 1) := by decide +kernel
theorem em26_113 : decode prog_5_method_2_code 113 = .ok (.iload 4, 2) := by decide +kernel
theorem em26_115 : decode prog_5_method_2_code 115 = .ok (.invokevirtual 69, 3) := by decide +kernel
theorem em26_118 : decode prog_5_method_2_code 118 = .ok (.iinc 4 1, 3) := by decide +kernel
theorem em26_121 : decode prog_5_method_2_code 121 = .ok (.goto (-36), 3) := by decide +kernel
theorem em26_124 : decode prog_5_method_2_code 124 = .ok (.iinc 3 1, 3) := by decide +kernel
theorem em26_127 : decode prog_5_method_2_code 127 = .ok (.goto (-85), 3) := by decide +kernel
theorem em26_130 : decode prog_5_method_2_code 130 = .ok (.return_, 1) := by decide +kernel
/-! CapitalCase$Planner.prepare:(LCapitalCase$Town;I)V -/
noncomputable def zTr_26 : Nat → Option aF := bn 58 (bn 28 (bn 12 (bn 6 (bn 2 (bn 1 (bl 0 (a_aload 0 1)) (bl 1 (a_iload 2 2))) (bn 5 (bl 2 (a_puti zG0 zT0 zprot 3 8 0 5)) (bl 5 (a_aload 0 6)))) (bn 10 (bn 7 (bl 6 (a_const 0 7)) (bl 7 (a_puti zG0 zT0 zprot 3 6 0 10))) (bn 11 (bl 10 (a_aload 0 11)) (bl 11 (a_const 0 12))))) (bn 18 (bn 16 (bn 15 (bl 12 (a_puti zG0 zT0 zprot 3 7 0 15)) (bl 15 (a_const 0 16))) (bn 17 (bl 16 (a_istore 3 17)) (bl 17 (a_iload 3 18)))) (bn 23 (bn 20 (bl 18 (a_const 40 20)) (bl 20 (a_icmp 3 40 23))) (bn 24 (bl 23 (a_aload 0 24)) (bn 27 (bl 24 (a_getf zG0 zT0 3 2 27)) (bl 27 (a_iload 3 28))))))) (bn 43 (bn 34 (bn 30 (bn 29 (bl 28 (a_aload 1 29)) (bl 29 (a_iload 3 30))) (bn 33 (bl 30 (a_invV zG0 zprot (true, false) zc_55 (zbd 55) (20, 0, 0) 8 2 33)) (bl 33 (a_ast zG0 zT0 ts0 34)))) (bn 40 (bn 37 (bl 34 (a_iinc 3 1 37)) (bl 37 (a_goto 17))) (bn 41 (bl 40 (a_const 0 41)) (bn 42 (bl 41 (a_istore 3 42)) (bl 42 (a_iload 3 43)))))) (bn 53 (bn 47 (bn 44 (bl 43 (a_aload 0 44)) (bl 44 (a_getf zG0 zT0 3 0 47))) (bn 50 (bl 47 (a_getf zG0 zT0 6 1 50)) (bl 50 (a_icmp 3 130 53)))) (bn 55 (bn 54 (bl 53 (a_iload 2 54)) (bl 54 (a_iload 3 55))) (bn 56 (bl 55 (a_bin fany 56)) (bn 57 (bl 56 (a_const 1 57)) (bl 57 (a_bin fand 58)))))))) (bn 93 (bn 75 (bn 68 (bn 64 (bn 61 (bl 58 (a_if 1 64 61)) (bl 61 (a_goto 124))) (bn 65 (bl 64 (a_aload 0 65)) (bl 65 (a_getf zG0 zT0 3 4 68)))) (bn 70 (bn 69 (bl 68 (a_iload 3 69)) (bl 69 (a_aload 0 70))) (bn 73 (bl 70 (a_getf zG0 zT0 3 1 73)) (bn 74 (bl 73 (a_iload 3 74)) (bl 74 (a_aload 1 75)))))) (bn 83 (bn 81 (bn 78 (bl 75 (a_getf zG0 zT0 8 7 78)) (bl 78 (a_invV zG0 zprot (true, false) zc_6 (zbd 6) (20, 0, 0) 1 3 81))) (bn 82 (bl 81 (a_ast zG0 zT0 ts0 82)) (bl 82 (a_const 0 83)))) (bn 87 (bn 85 (bl 83 (a_istore 4 85)) (bl 85 (a_iload 4 87))) (bn 89 (bl 87 (a_const 8 89)) (bn 92 (bl 89 (a_icmp 3 124 92)) (bl 92 (a_aload 0 93))))))) (bn 110 (bn 102 (bn 99 (bn 96 (bl 93 (a_getf zG0 zT0 3 0 96)) (bl 96 (a_getf zG0 zT0 6 10 99))) (bn 100 (bl 99 (a_iload 3 100)) (bl 100 (a_const 8 102)))) (bn 105 (bn 103 (bl 102 (a_bin fmul 103)) (bl 103 (a_iload 4 105))) (bn 106 (bl 105 (a_bin fadd 106)) (bn 107 (bl 106 (a_ald zG0 zT0 (true, false) ts0 107)) (bl 107 (a_if 5 118 110)))))) (bn 115 (bn 112 (bn 111 (bl 110 (a_aload 0 111)) (bl 111 (a_aload 1 112))) (bn 113 (bl 112 (a_iload 3 113)) (bl 113 (a_iload 4 115)))) (bn 121 (bn 118 (bl 115 (a_invV zG0 zprot (true, false) zc_24 (zbd 24) (20, 0, 0) 3 4 118)) (bl 118 (a_iinc 4 1 121))) (bn 124 (bl 121 (a_goto 85)) (bn 127 (bl 124 (a_iinc 3 1 127)) (bl 127 (a_goto 42))))))))
set_option maxRecDepth 100000 in
set_option maxHeartbeats 4000000 in
theorem zTo_26 {pre : zPre} {post : zPost} (H : zTieC pre post) {d : Nat × Nat × Nat} (hd : zLe (20, 0, 0) d) : aTr zG0 zT0 zInv (true, false) PZ zbd pre post d prog_5_method_2_code "CapitalCase$Planner" zTr_26 := (xB_n (xB_n (xB_n (xB_n (xB_n (xB_n (xB_l ⟨_, zs_aload_n em26_0, as_aload⟩) (xB_l ⟨_, zs_iload_n em26_1, as_iload⟩)) (xB_n (xB_l ⟨_, zs_puti zInj0 (T := TX3) (M := 12) (ty := tyX3) (ci := 3) (j := 8) (kd := 0) em26_2 rfl inX3 tyX3_ok nmX3 (by decide) wd_466 (Or.inl ⟨rfl, rfl⟩) rfl ((congrFun xo_4 38).trans rfl), ag_puti0⟩) (xB_l ⟨_, zs_aload_n em26_5, as_aload⟩))) (xB_n (xB_n (xB_l ⟨_, zs_iconst (v := 0) em26_6 (by decide +kernel), as_const (by decide +kernel)⟩) (xB_l ⟨_, zs_puti zInj0 (T := TX3) (M := 12) (ty := tyX3) (ci := 3) (j := 6) (kd := 0) em26_7 rfl inX3 tyX3_ok nmX3 (by decide) wd_461 (Or.inl ⟨rfl, rfl⟩) rfl ((congrFun xo_4 42).trans rfl), ag_puti0⟩)) (xB_n (xB_l ⟨_, zs_aload_n em26_10, as_aload⟩) (xB_l ⟨_, zs_iconst (v := 0) em26_11 (by decide +kernel), as_const (by decide +kernel)⟩)))) (xB_n (xB_n (xB_n (xB_l ⟨_, zs_puti zInj0 (T := TX3) (M := 12) (ty := tyX3) (ci := 3) (j := 7) (kd := 0) em26_12 rfl inX3 tyX3_ok nmX3 (by decide) wd_464 (Or.inl ⟨rfl, rfl⟩) rfl ((congrFun xo_4 45).trans rfl), ag_puti0⟩) (xB_l ⟨_, zs_iconst (v := 0) em26_15 (by decide +kernel), as_const (by decide +kernel)⟩)) (xB_n (xB_l ⟨_, zs_istore_n em26_16, as_istore⟩) (xB_l ⟨_, zs_iload_n em26_17, as_iload⟩))) (xB_n (xB_n (xB_l ⟨_, zs_bipush (v := 40) em26_18 (by decide +kernel), as_const (by decide +kernel)⟩) (xB_l ⟨_, zs_icmpge em26_20 (t := 40) (by decide), as_icmp⟩)) (xB_n (xB_l ⟨_, zs_aload_n em26_23, as_aload⟩) (xB_n (xB_l ⟨_, zs_getf (T := TX3) (M := 12) (ci := 3) (j := 2) em26_24 rfl inX3 (by decide) wd_453 ((congrFun xo_4 9).trans rfl), as_getf zTie⟩) (xB_l ⟨_, zs_iload_n em26_27, as_iload⟩)))))) (xB_n (xB_n (xB_n (xB_n (xB_l ⟨_, zs_aload_n em26_28, as_aload⟩) (xB_l ⟨_, zs_iload_n em26_29, as_iload⟩)) (xB_n (xB_l ⟨_, zs_invV (T := TX8) em26_30 zl_55 rfl wd_947 wd_859 wd_860 ((congrFun xo_4 48).trans rfl) xm_51, ag_invV H zh_55 hd (by decide)⟩) (xB_l ⟨_, zs_iast zInj0 em26_33, as_iast zTie⟩))) (xB_n (xB_n (xB_l ⟨_, zs_iinc (k := 1) em26_34 (by decide +kernel), as_iinc (by decide +kernel)⟩) (xB_l ⟨_, zs_goto em26_37 (t := 17) (by decide), as_goto⟩)) (xB_n (xB_l ⟨_, zs_iconst (v := 0) em26_40 (by decide +kernel), as_const (by decide +kernel)⟩) (xB_n (xB_l ⟨_, zs_istore_n em26_41, as_istore⟩) (xB_l ⟨_, zs_iload_n em26_42, as_iload⟩))))) (xB_n (xB_n (xB_n (xB_l ⟨_, zs_aload_n em26_43, as_aload⟩) (xB_l ⟨_, zs_getf (T := TX3) (M := 12) (ci := 3) (j := 0) em26_44 rfl inX3 (by decide) wd_451 ((congrFun xo_4 30).trans rfl), as_getf zTie⟩)) (xB_n (xB_l ⟨_, zs_getf (T := TX6) (M := 15) (ci := 6) (j := 1) em26_47 rfl inX6 (by decide) wd_170 ((congrFun xo_4 53).trans rfl), as_getf zTie⟩) (xB_l ⟨_, zs_icmpge em26_50 (t := 130) (by decide), as_icmp⟩))) (xB_n (xB_n (xB_l ⟨_, zs_iload_n em26_53, as_iload⟩) (xB_l ⟨_, zs_iload_n em26_54, as_iload⟩)) (xB_n (xB_l ⟨_, zs_ishr em26_55, as_bin fany_ok⟩) (xB_n (xB_l ⟨_, zs_iconst (v := 1) em26_56 (by decide +kernel), as_const (by decide +kernel)⟩) (xB_l ⟨_, zs_iand em26_57, as_bin fand_ok⟩))))))) (xB_n (xB_n (xB_n (xB_n (xB_n (xB_l ⟨_, zs_ifne em26_58 (t := 64) (by decide), as_if⟩) (xB_l ⟨_, zs_goto em26_61 (t := 124) (by decide), as_goto⟩)) (xB_n (xB_l ⟨_, zs_aload_n em26_64, as_aload⟩) (xB_l ⟨_, zs_getf (T := TX3) (M := 12) (ci := 3) (j := 4) em26_65 rfl inX3 (by decide) wd_457 ((congrFun xo_4 18).trans rfl), as_getf zTie⟩))) (xB_n (xB_n (xB_l ⟨_, zs_iload_n em26_68, as_iload⟩) (xB_l ⟨_, zs_aload_n em26_69, as_aload⟩)) (xB_n (xB_l ⟨_, zs_getf (T := TX3) (M := 12) (ci := 3) (j := 1) em26_70 rfl inX3 (by decide) wd_452 ((congrFun xo_4 34).trans rfl), as_getf zTie⟩) (xB_n (xB_l ⟨_, zs_iload_n em26_73, as_iload⟩) (xB_l ⟨_, zs_aload_n em26_74, as_aload⟩))))) (xB_n (xB_n (xB_n (xB_l ⟨_, zs_getf (T := TX8) (M := 10) (ci := 8) (j := 7) em26_75 rfl inX8 (by decide) wd_347 ((congrFun xo_4 58).trans rfl), as_getf zTie⟩) (xB_l ⟨_, zs_invV (T := TX1) em26_78 zl_6 rfl wd_948 wd_903 wd_904 ((congrFun xo_4 61).trans rfl) xm_6, ag_invV H zh_6 hd (by decide)⟩)) (xB_n (xB_l ⟨_, zs_iast zInj0 em26_81, as_iast zTie⟩) (xB_l ⟨_, zs_iconst (v := 0) em26_82 (by decide +kernel), as_const (by decide +kernel)⟩))) (xB_n (xB_n (xB_l ⟨_, zs_istore em26_83, as_istore⟩) (xB_l ⟨_, zs_iload em26_85, as_iload⟩)) (xB_n (xB_l ⟨_, zs_bipush (v := 8) em26_87 (by decide +kernel), as_const (by decide +kernel)⟩) (xB_n (xB_l ⟨_, zs_icmpge em26_89 (t := 124) (by decide), as_icmp⟩) (xB_l ⟨_, zs_aload_n em26_92, as_aload⟩)))))) (xB_n (xB_n (xB_n (xB_n (xB_l ⟨_, zs_getf (T := TX3) (M := 12) (ci := 3) (j := 0) em26_93 rfl inX3 (by decide) wd_451 ((congrFun xo_4 30).trans rfl), as_getf zTie⟩) (xB_l ⟨_, zs_getf (T := TX6) (M := 15) (ci := 6) (j := 10) em26_96 rfl inX6 (by decide) wd_209 ((congrFun xo_4 66).trans rfl), as_getf zTie⟩)) (xB_n (xB_l ⟨_, zs_iload_n em26_99, as_iload⟩) (xB_l ⟨_, zs_bipush (v := 8) em26_100 (by decide +kernel), as_const (by decide +kernel)⟩))) (xB_n (xB_n (xB_l ⟨_, zs_imul em26_102, as_bin fmul_ok⟩) (xB_l ⟨_, zs_iload em26_103, as_iload⟩)) (xB_n (xB_l ⟨_, zs_iadd em26_105, as_bin fadd_ok⟩) (xB_n (xB_l ⟨_, zs_iald em26_106, ag_iald⟩) (xB_l ⟨_, zs_ifle em26_107 (t := 118) (by decide), as_if⟩))))) (xB_n (xB_n (xB_n (xB_l ⟨_, zs_aload_n em26_110, as_aload⟩) (xB_l ⟨_, zs_aload_n em26_111, as_aload⟩)) (xB_n (xB_l ⟨_, zs_iload_n em26_112, as_iload⟩) (xB_l ⟨_, zs_iload em26_113, as_iload⟩))) (xB_n (xB_n (xB_l ⟨_, zs_invV (T := TX3) em26_115 zl_24 rfl wd_949 wd_951 wd_28 ((congrFun xo_4 69).trans rfl) xm_24, ag_invV H zh_24 hd (by decide)⟩) (xB_l ⟨_, zs_iinc (k := 1) em26_118 (by decide +kernel), as_iinc (by decide +kernel)⟩)) (xB_n (xB_l ⟨_, zs_goto em26_121 (t := 85) (by decide), as_goto⟩) (xB_n (xB_l ⟨_, zs_iinc (k := 1) em26_124 (by decide +kernel), as_iinc (by decide +kernel)⟩) (xB_l ⟨_, zs_goto em26_127 (t := 42) (by decide), as_goto⟩))))))))
set_option maxRecDepth 100000 in
set_option maxHeartbeats 4000000 in
theorem zM_26 : zOKa 26 zc_26 := z_auto (cuts := [(17, ([(0, 0), (0, 127), (0, 408), (0, 5), (0, 7), (0, 40)], [], [some (.inr (.inl (1, 2000))), some (.inr (.inl (1, 1000))), some (.inl (1, 0)), some (.inl (5, 0)), none], [], [(4, 2, 0), (5, 3, 0), (6, 4, 0)], (0, 0)), [(0, 3)], 120, [0, 0, 0, 0, 0, (-1)]), (42, ([(0, 0), (0, 127), (0, 408), (0, 5), (0, 7), (0, 7)], [], [some (.inr (.inl (1, 2000))), some (.inr (.inl (1, 1000))), some (.inl (1, 0)), some (.inl (5, 0)), none], [], [(4, 2, 0), (5, 3, 0), (6, 4, 0)], (0, 0)), [(0, 3)], 79, [0, 0, 0, 0, 0, (-10)]), (85, ([(0, 0), (0, 127), (0, 408), (0, 5), (0, 7), (0, 6), (0, 8)], [], [some (.inr (.inl (1, 2000))), some (.inr (.inl (1, 1000))), some (.inl (1, 0)), some (.inl (5, 0)), some (.inl (6, 0))], [], [(4, 2, 0), (5, 3, 0), (6, 4, 0)], (0, 0)), [(0, 3), (0, 4)], 78, [0, 0, 0, 0, 0, (-10), (-1)])]) (rets := [(130, 3)]) (fuel := 1000) rfl rfl (by decide) (xrt_ok (xR_c (Or.inr (Or.inr (Or.inl ⟨rfl, em26_130, rfl⟩))) (xR_n))) (fun _ _ H _ hd => zTo_26 H hd) (by decide +kernel)
theorem em27_0 : decode prog_5_method_9_code 0 = .ok (.iconst 0, 1) := by decide +kernel
theorem em27_1 : decode prog_5_method_9_code 1 = .ok (.istore_n 1, 1) := by decide +kernel
theorem em27_2 : decode prog_5_method_9_code 2 = .ok (.iconst 0, 1) := by decide +kernel
theorem em27_3 : decode prog_5_method_9_code 3 = .ok (.istore_n 2, 1) := by decide +kernel
theorem em27_4 : decode prog_5_method_9_code 4 = .ok (.iconst 0, 1) := by decide +kernel
theorem em27_5 : decode prog_5_method_9_code 5 = .ok (.istore_n 3, 1) := by decide +kernel
theorem em27_6 : decode prog_5_method_9_code 6 = .ok (.iconst 0, 1) := by decide +kernel
theorem em27_7 : decode prog_5_method_9_code 7 = .ok (.istore 4, 2) := by decide +kernel
theorem em27_9 : decode prog_5_method_9_code 9 = .ok (.iload 4, 2) := by decide +kernel
theorem em27_11 : decode prog_5_method_9_code 11 = .ok (.sipush 128, 3) := by decide +kernel
theorem em27_14 : decode prog_5_method_9_code 14 = .ok (.if_icmp .ge 118, 3) := by decide +kernel
theorem em27_17 : decode prog_5_method_9_code 17 = .ok (.iload_n 3, 1) := by decide +kernel
theorem em27_18 : decode prog_5_method_9_code 18 = .ok (.aload_n 0, 1) := by decide +kernel
theorem em27_19 : decode prog_5_method_9_code 19 = .ok (.getfield 30, 3) := by decide +kernel
theorem em27_22 : decode prog_5_method_9_code 22 = .ok (.getfield 53, 3) := by decide +kernel
theorem em27_25 : decode prog_5_method_9_code 25 = .ok (.if_icmp .ge 44, 3) := by decide +kernel
theorem em27_28 : decode prog_5_method_9_code 28 = .ok (.aload_n 0, 1) := by decide +kernel
theorem em27_29 : decode prog_5_method_9_code 29 = .ok (.getfield 38, 3) := by decide +kernel
theorem em27_32 : decode prog_5_method_9_code 32 = .ok (.iload_n 3, 1) := by decide +kernel
theorem em27_33 : decode prog_5_method_9_code 33 = .ok (.ishr, 1) := by decide +kernel
theorem em27_34 : decode prog_5_method_9_code 34 = .ok (.iconst 1, 1) := by decide +kernel
theorem em27_35 : decode prog_5_method_9_code 35 = .ok (.iand, 1) := by decide +kernel
theorem em27_36 : decode prog_5_method_9_code 36 = .ok (.iconst 1, 1) := by decide +kernel
theorem em27_37 : decode prog_5_method_9_code 37 = .ok (.if_icmp .ne 26, 3) := by decide +kernel
theorem em27_40 : decode prog_5_method_9_code 40 = .ok (.aload_n 0, 1) := by decide +kernel
theorem em27_41 : decode prog_5_method_9_code 41 = .ok (.iload_n 3, 1) := by decide +kernel
theorem em27_42 : decode prog_5_method_9_code 42 = .ok (.invokevirtual 110, 3) := by decide +kernel
theorem em27_45 : decode prog_5_method_9_code 45 = .ok (.ifCond .eq 18, 3) := by decide +kernel
theorem em27_48 : decode prog_5_method_9_code 48 = .ok (.iload_n 1, 1) := by decide +kernel
theorem em27_49 : decode prog_5_method_9_code 49 = .ok (.iconst 1, 1) := by decide +kernel
theorem em27_50 : decode prog_5_method_9_code 50 = .ok (.iload_n 3, 1) := by decide +kernel
theorem em27_51 : decode prog_5_method_9_code 51 = .ok (.ishl, 1) := by decide +kernel
theorem em27_52 : decode prog_5_method_9_code 52 = .ok (.ior, 1) := by decide +kernel
theorem em27_53 : decode prog_5_method_9_code 53 = .ok (.istore_n 1, 1) := by decide +kernel
theorem em27_54 : decode prog_5_method_9_code 54 = .ok (.iload_n 2, 1) := by decide +kernel
theorem em27_55 : decode prog_5_method_9_code 55 = .ok (.aload_n 0, 1) := by decide +kernel
theorem em27_56 : decode prog_5_method_9_code 56 = .ok (.getfield 18, 3) := by decide +kernel
theorem em27_59 : decode prog_5_method_9_code 59 = .ok (.iload_n 3, 1) := by decide +kernel
theorem em27_60 : decode prog_5_method_9_code 60 = .ok (.iaload, 1) := by decide +kernel
theorem em27_61 : decode prog_5_method_9_code 61 = .ok (.iadd, 1) := by decide +kernel
theorem em27_62 : decode prog_5_method_9_code 62 = .ok (.istore_n 2, 1) := by decide +kernel
theorem em27_63 : decode prog_5_method_9_code 63 = .ok (.iinc 3 1, 3) := by decide +kernel
theorem em27_66 : decode prog_5_method_9_code 66 = .ok (.goto (-49), 3) := by decide +kernel
theorem em27_69 : decode prog_5_method_9_code 69 = .ok (.aload_n 0, 1) := by decide +kernel
theorem em27_70 : decode prog_5_method_9_code 70 = .ok (.iload_n 1, 1) := by decide +kernel
theorem em27_71 : decode prog_5_method_9_code 71 = .ok (.iload_n 2, 1) := by decide +kernel
theorem em27_72 : decode prog_5_method_9_code 72 = .ok (.invokevirtual 114, 3) := by decide +kernel
theorem em27_75 : decode prog_5_method_9_code 75 = .ok (.iload_n 1, 1) := by decide +kernel
theorem em27_76 : decode prog_5_method_9_code 76 = .ok (.ifCond .ne 4, 3) := by decide +kernel
theorem em27_79 : decode prog_5_method_9_code 79 = .ok (.return_, 1) := by decide +kernel
theorem em27_80 : decode prog_5_method_9_code 80 = .ok (.iload_n 1, 1) := by decide +kernel
theorem em27_81 : decode prog_5_method_9_code 81 = .ok (.invokestatic 117, 3) := by decide +kernel
theorem em27_84 : decode prog_5_method_9_code 84 = .ok (.istore 5, 2) := by decide +kernel
theorem em27_86 : decode prog_5_method_9_code 86 = .ok (.aload_n 0, 1) := by decide +kernel
theorem em27_87 : decode prog_5_method_9_code 87 = .ok (.iload 5, 2) := by decide +kernel
theorem em27_89 : decode prog_5_method_9_code 89 = .ok (.aload_n 0, 1) := by decide +kernel
theorem em27_90 : decode prog_5_method_9_code 90 = .ok (.getfield 30, 3) := by decide +kernel
theorem em27_93 : decode prog_5_method_9_code 93 = .ok (.getfield 87, 3) := by decide +kernel
theorem em27_96 : decode prog_5_method_9_code 96 = .ok (.iload 5, 2) := by decide +kernel
theorem em27_98 : decode prog_5_method_9_code 98 = .ok (.iaload, 1) := by decide +kernel
theorem em27_99 : decode prog_5_method_9_code 99 = .ok (.invokevirtual 96, 3) := by decide +kernel
theorem em27_102 : decode prog_5_method_9_code 102 = .ok (.iload_n 1, 1) := by decide +kernel
theorem em27_103 : decode prog_5_method_9_code 103 = .ok (.iconst 1, 1) := by decide +kernel
theorem em27_104 : decode prog_5_method_9_code 104 = .ok (.iload 5, 2) := by decide +kernel
theorem em27_106 : decode prog_5_method_9_code 106 = .ok (.ishl, 1) := by decide +kernel
theorem em27_107 : decode prog_5_method_9_code 107 = .ok (.iconst (-1), 1) := by decide +kernel
theorem em27_108 : decode prog_5_method_9_code 108 = .ok (.ixor, 1) := by decide +kernel
theorem em27_109 : decode prog_5_method_9_code 109 = .ok (.iand, 1) := by decide +kernel
theorem em27_110 : decode prog_5_method_9_code 110 = .ok (.istore_n 1, 1) := by decide +kernel
theorem em27_111 : decode prog_5_method_9_code 111 = .ok (.iload_n 2, 1) := by decide +kernel
theorem em27_112 : decode prog_5_method_9_code 112 = .ok (.aload_n 0, 1) := by decide +kernel
theorem em27_113 : decode prog_5_method_9_code 113 = .ok (.getfield 18, 3) := by decide +kernel
theorem em27_116 : decode prog_5_method_9_code 116 = .ok (.iload 5, 2) := by decide +kernel
theorem em27_118 : decode prog_5_method_9_code 118 = .ok (.iaload, 1) := by decide +kernel
theorem em27_119 : decode prog_5_method_9_code 119 = .ok (.isub, 1) := by decide +kernel
theorem em27_120 : decode prog_5_method_9_code 120 = .ok (.istore_n 2, 1) := by decide +kernel
theorem em27_121 : decode prog_5_method_9_code 121 = .ok (.iload 5, 2) := by decide +kernel
theorem em27_123 : decode prog_5_method_9_code 123 = .ok (.iconst 1, 1) := by decide +kernel
theorem em27_124 : decode prog_5_method_9_code 124 = .ok (.iadd, 1) := by decide +kernel
theorem em27_125 : decode prog_5_method_9_code 125 = .ok (.istore_n 3, 1) := by decide +kernel
theorem em27_126 : decode prog_5_method_9_code 126 = .ok (.iinc 4 1, 3) := by decide +kernel
theorem em27_129 : decode prog_5_method_9_code 129 = .ok (.goto (-120), 3) := by decide +kernel
theorem em27_132 : decode prog_5_method_9_code 132 = .ok (.return_, 1) := by decide +kernel
/-! CapitalCase$Planner.search:()V -/
noncomputable def zTr_27 : Nat → Option aF := bn 62 (bn 34 (bn 14 (bn 5 (bn 2 (bn 1 (bl 0 (a_const 0 1)) (bl 1 (a_istore 1 2))) (bn 3 (bl 2 (a_const 0 3)) (bn 4 (bl 3 (a_istore 2 4)) (bl 4 (a_const 0 5))))) (bn 7 (bn 6 (bl 5 (a_istore 3 6)) (bl 6 (a_const 0 7))) (bn 9 (bl 7 (a_istore 4 9)) (bn 11 (bl 9 (a_iload 4 11)) (bl 11 (a_const 128 14)))))) (bn 25 (bn 18 (bn 17 (bl 14 (a_icmp 3 132 17)) (bl 17 (a_iload 3 18))) (bn 19 (bl 18 (a_aload 0 19)) (bn 22 (bl 19 (a_getf zG0 zT0 3 0 22)) (bl 22 (a_getf zG0 zT0 6 1 25))))) (bn 29 (bn 28 (bl 25 (a_icmp 3 69 28)) (bl 28 (a_aload 0 29))) (bn 32 (bl 29 (a_getf zG0 zT0 3 8 32)) (bn 33 (bl 32 (a_iload 3 33)) (bl 33 (a_bin fany 34))))))) (bn 50 (bn 41 (bn 36 (bn 35 (bl 34 (a_const 1 35)) (bl 35 (a_bin fand 36))) (bn 37 (bl 36 (a_const 1 37)) (bn 40 (bl 37 (a_icmp 1 63 40)) (bl 40 (a_aload 0 41))))) (bn 45 (bn 42 (bl 41 (a_iload 3 42)) (bl 42 (a_invV zG0 zprot (true, false) zc_30 (zbd 30) (2, 0, 0) 3 2 45))) (bn 48 (bl 45 (a_if 0 63 48)) (bn 49 (bl 48 (a_iload 1 49)) (bl 49 (a_const 1 50)))))) (bn 55 (bn 52 (bn 51 (bl 50 (a_iload 3 51)) (bl 51 (a_bin fshl 52))) (bn 53 (bl 52 (a_bin fany 53)) (bn 54 (bl 53 (a_istore 1 54)) (bl 54 (a_iload 2 55))))) (bn 59 (bn 56 (bl 55 (a_aload 0 56)) (bl 56 (a_getf zG0 zT0 3 4 59))) (bn 60 (bl 59 (a_iload 3 60)) (bn 61 (bl 60 (a_ald zG0 zT0 (true, false) ts0 61)) (bl 61 (a_bin fadd 62)))))))) (bn 102 (bn 81 (bn 71 (bn 66 (bn 63 (bl 62 (a_istore 2 63)) (bl 63 (a_iinc 3 1 66))) (bn 69 (bl 66 (a_goto 17)) (bn 70 (bl 69 (a_aload 0 70)) (bl 70 (a_iload 1 71))))) (bn 75 (bn 72 (bl 71 (a_iload 2 72)) (bl 72 (a_invV zG0 zprot (true, false) zc_22 (zbd 22) (2, 0, 0) 3 3 75))) (bn 76 (bl 75 (a_iload 1 76)) (bn 80 (bl 76 (a_if 1 80 79)) (bl 80 (a_iload 1 81)))))) (bn 90 (bn 86 (bn 84 (bl 81 (a_inv zG0 zprot (true, false) zc_23 (zbd 23) (2, 0, 0) 1 84)) (bl 84 (a_istore 5 86))) (bn 87 (bl 86 (a_aload 0 87)) (bn 89 (bl 87 (a_iload 5 89)) (bl 89 (a_aload 0 90))))) (bn 96 (bn 93 (bl 90 (a_getf zG0 zT0 3 0 93)) (bl 93 (a_getf zG0 zT0 6 8 96))) (bn 98 (bl 96 (a_iload 5 98)) (bn 99 (bl 98 (a_ald zG0 zT0 (true, false) ts0 99)) (bl 99 (a_invV zG0 zprot (true, false) zc_21 (zbd 21) (2, 0, 0) 3 3 102))))))) (bn 113 (bn 108 (bn 104 (bn 103 (bl 102 (a_iload 1 103)) (bl 103 (a_const 1 104))) (bn 106 (bl 104 (a_iload 5 106)) (bn 107 (bl 106 (a_bin fshl 107)) (bl 107 (a_const (-1) 108))))) (bn 110 (bn 109 (bl 108 (a_bin fany 109)) (bl 109 (a_bin fand 110))) (bn 111 (bl 110 (a_istore 1 111)) (bn 112 (bl 111 (a_iload 2 112)) (bl 112 (a_aload 0 113)))))) (bn 121 (bn 118 (bn 116 (bl 113 (a_getf zG0 zT0 3 4 116)) (bl 116 (a_iload 5 118))) (bn 119 (bl 118 (a_ald zG0 zT0 (true, false) ts0 119)) (bn 120 (bl 119 (a_bin fsub 120)) (bl 120 (a_istore 2 121))))) (bn 125 (bn 123 (bl 121 (a_iload 5 123)) (bn 124 (bl 123 (a_const 1 124)) (bl 124 (a_bin fadd 125)))) (bn 126 (bl 125 (a_istore 3 126)) (bn 129 (bl 126 (a_iinc 4 1 129)) (bl 129 (a_goto 9))))))))
set_option maxRecDepth 100000 in
set_option maxHeartbeats 4000000 in
theorem zTo_27 {pre : zPre} {post : zPost} (H : zTieC pre post) {d : Nat × Nat × Nat} (hd : zLe (2, 0, 0) d) : aTr zG0 zT0 zInv (true, false) PZ zbd pre post d prog_5_method_9_code "CapitalCase$Planner" zTr_27 := (xB_n (xB_n (xB_n (xB_n (xB_n (xB_n (xB_l ⟨_, zs_iconst (v := 0) em27_0 (by decide +kernel), as_const (by decide +kernel)⟩) (xB_l ⟨_, zs_istore_n em27_1, as_istore⟩)) (xB_n (xB_l ⟨_, zs_iconst (v := 0) em27_2 (by decide +kernel), as_const (by decide +kernel)⟩) (xB_n (xB_l ⟨_, zs_istore_n em27_3, as_istore⟩) (xB_l ⟨_, zs_iconst (v := 0) em27_4 (by decide +kernel), as_const (by decide +kernel)⟩)))) (xB_n (xB_n (xB_l ⟨_, zs_istore_n em27_5, as_istore⟩) (xB_l ⟨_, zs_iconst (v := 0) em27_6 (by decide +kernel), as_const (by decide +kernel)⟩)) (xB_n (xB_l ⟨_, zs_istore em27_7, as_istore⟩) (xB_n (xB_l ⟨_, zs_iload em27_9, as_iload⟩) (xB_l ⟨_, zs_sipush (v := 128) em27_11 (by decide +kernel), as_const (by decide +kernel)⟩))))) (xB_n (xB_n (xB_n (xB_l ⟨_, zs_icmpge em27_14 (t := 132) (by decide), as_icmp⟩) (xB_l ⟨_, zs_iload_n em27_17, as_iload⟩)) (xB_n (xB_l ⟨_, zs_aload_n em27_18, as_aload⟩) (xB_n (xB_l ⟨_, zs_getf (T := TX3) (M := 12) (ci := 3) (j := 0) em27_19 rfl inX3 (by decide) wd_451 ((congrFun xo_4 30).trans rfl), as_getf zTie⟩) (xB_l ⟨_, zs_getf (T := TX6) (M := 15) (ci := 6) (j := 1) em27_22 rfl inX6 (by decide) wd_170 ((congrFun xo_4 53).trans rfl), as_getf zTie⟩)))) (xB_n (xB_n (xB_l ⟨_, zs_icmpge em27_25 (t := 69) (by decide), as_icmp⟩) (xB_l ⟨_, zs_aload_n em27_28, as_aload⟩)) (xB_n (xB_l ⟨_, zs_getf (T := TX3) (M := 12) (ci := 3) (j := 8) em27_29 rfl inX3 (by decide) wd_466 ((congrFun xo_4 38).trans rfl), as_getf zTie⟩) (xB_n (xB_l ⟨_, zs_iload_n em27_32, as_iload⟩) (xB_l ⟨_, zs_ishr em27_33, as_bin fany_ok⟩)))))) (xB_n (xB_n (xB_n (xB_n (xB_l ⟨_, zs_iconst (v := 1) em27_34 (by decide +kernel), as_const (by decide +kernel)⟩) (xB_l ⟨_, zs_iand em27_35, as_bin fand_ok⟩)) (xB_n (xB_l ⟨_, zs_iconst (v := 1) em27_36 (by decide +kernel), as_const (by decide +kernel)⟩) (xB_n (xB_l ⟨_, zs_icmpne em27_37 (t := 63) (by decide), as_icmp⟩) (xB_l ⟨_, zs_aload_n em27_40, as_aload⟩)))) (xB_n (xB_n (xB_l ⟨_, zs_iload_n em27_41, as_iload⟩) (xB_l ⟨_, zs_invV (T := TX3) em27_42 zl_30 rfl wd_1070 wd_956 wd_957 ((congrFun xo_4 110).trans rfl) xm_30, ag_invV H zh_30 hd (by decide)⟩)) (xB_n (xB_l ⟨_, zs_ifeq em27_45 (t := 63) (by decide), as_if⟩) (xB_n (xB_l ⟨_, zs_iload_n em27_48, as_iload⟩) (xB_l ⟨_, zs_iconst (v := 1) em27_49 (by decide +kernel), as_const (by decide +kernel)⟩))))) (xB_n (xB_n (xB_n (xB_l ⟨_, zs_iload_n em27_50, as_iload⟩) (xB_l ⟨_, zs_ishl em27_51, as_bin fshl_ok⟩)) (xB_n (xB_l ⟨_, zs_ior em27_52, as_bin fany_ok⟩) (xB_n (xB_l ⟨_, zs_istore_n em27_53, as_istore⟩) (xB_l ⟨_, zs_iload_n em27_54, as_iload⟩)))) (xB_n (xB_n (xB_l ⟨_, zs_aload_n em27_55, as_aload⟩) (xB_l ⟨_, zs_getf (T := TX3) (M := 12) (ci := 3) (j := 4) em27_56 rfl inX3 (by decide) wd_457 ((congrFun xo_4 18).trans rfl), as_getf zTie⟩)) (xB_n (xB_l ⟨_, zs_iload_n em27_59, as_iload⟩) (xB_n (xB_l ⟨_, zs_iald em27_60, ag_iald⟩) (xB_l ⟨_, zs_iadd em27_61, as_bin fadd_ok⟩))))))) (xB_n (xB_n (xB_n (xB_n (xB_n (xB_l ⟨_, zs_istore_n em27_62, as_istore⟩) (xB_l ⟨_, zs_iinc (k := 1) em27_63 (by decide +kernel), as_iinc (by decide +kernel)⟩)) (xB_n (xB_l ⟨_, zs_goto em27_66 (t := 17) (by decide), as_goto⟩) (xB_n (xB_l ⟨_, zs_aload_n em27_69, as_aload⟩) (xB_l ⟨_, zs_iload_n em27_70, as_iload⟩)))) (xB_n (xB_n (xB_l ⟨_, zs_iload_n em27_71, as_iload⟩) (xB_l ⟨_, zs_invV (T := TX3) em27_72 zl_22 rfl wd_1071 wd_1073 wd_33 ((congrFun xo_4 114).trans rfl) xm_22, ag_invV H zh_22 hd (by decide)⟩)) (xB_n (xB_l ⟨_, zs_iload_n em27_75, as_iload⟩) (xB_n (xB_l ⟨_, zs_ifne em27_76 (t := 80) (by decide), as_if⟩) (xB_l ⟨_, zs_iload_n em27_80, as_iload⟩))))) (xB_n (xB_n (xB_n (xB_l ⟨_, zs_invS em27_81 zl_23 wd_1075 wd_1076 ((congrFun xo_4 117).trans rfl) xm_23, ag_inv H zh_23 hd (by decide)⟩) (xB_l ⟨_, zs_istore em27_84, as_istore⟩)) (xB_n (xB_l ⟨_, zs_aload_n em27_86, as_aload⟩) (xB_n (xB_l ⟨_, zs_iload em27_87, as_iload⟩) (xB_l ⟨_, zs_aload_n em27_89, as_aload⟩)))) (xB_n (xB_n (xB_l ⟨_, zs_getf (T := TX3) (M := 12) (ci := 3) (j := 0) em27_90 rfl inX3 (by decide) wd_451 ((congrFun xo_4 30).trans rfl), as_getf zTie⟩) (xB_l ⟨_, zs_getf (T := TX6) (M := 15) (ci := 6) (j := 8) em27_93 rfl inX6 (by decide) wd_196 ((congrFun xo_4 87).trans rfl), as_getf zTie⟩)) (xB_n (xB_l ⟨_, zs_iload em27_96, as_iload⟩) (xB_n (xB_l ⟨_, zs_iald em27_98, ag_iald⟩) (xB_l ⟨_, zs_invV (T := TX3) em27_99 zl_21 rfl wd_963 wd_964 wd_965 ((congrFun xo_4 96).trans rfl) xm_21, ag_invV H zh_21 hd (by decide)⟩)))))) (xB_n (xB_n (xB_n (xB_n (xB_l ⟨_, zs_iload_n em27_102, as_iload⟩) (xB_l ⟨_, zs_iconst (v := 1) em27_103 (by decide +kernel), as_const (by decide +kernel)⟩)) (xB_n (xB_l ⟨_, zs_iload em27_104, as_iload⟩) (xB_n (xB_l ⟨_, zs_ishl em27_106, as_bin fshl_ok⟩) (xB_l ⟨_, zs_iconst (v := (-1)) em27_107 (by decide +kernel), as_const (by decide +kernel)⟩)))) (xB_n (xB_n (xB_l ⟨_, zs_ixor em27_108, as_bin fany_ok⟩) (xB_l ⟨_, zs_iand em27_109, as_bin fand_ok⟩)) (xB_n (xB_l ⟨_, zs_istore_n em27_110, as_istore⟩) (xB_n (xB_l ⟨_, zs_iload_n em27_111, as_iload⟩) (xB_l ⟨_, zs_aload_n em27_112, as_aload⟩))))) (xB_n (xB_n (xB_n (xB_l ⟨_, zs_getf (T := TX3) (M := 12) (ci := 3) (j := 4) em27_113 rfl inX3 (by decide) wd_457 ((congrFun xo_4 18).trans rfl), as_getf zTie⟩) (xB_l ⟨_, zs_iload em27_116, as_iload⟩)) (xB_n (xB_l ⟨_, zs_iald em27_118, ag_iald⟩) (xB_n (xB_l ⟨_, zs_isub em27_119, as_bin fsub_ok⟩) (xB_l ⟨_, zs_istore_n em27_120, as_istore⟩)))) (xB_n (xB_n (xB_l ⟨_, zs_iload em27_121, as_iload⟩) (xB_n (xB_l ⟨_, zs_iconst (v := 1) em27_123 (by decide +kernel), as_const (by decide +kernel)⟩) (xB_l ⟨_, zs_iadd em27_124, as_bin fadd_ok⟩))) (xB_n (xB_l ⟨_, zs_istore_n em27_125, as_istore⟩) (xB_n (xB_l ⟨_, zs_iinc (k := 1) em27_126 (by decide +kernel), as_iinc (by decide +kernel)⟩) (xB_l ⟨_, zs_goto em27_129 (t := 9) (by decide), as_goto⟩))))))))
set_option maxRecDepth 100000 in
set_option maxHeartbeats 4000000 in
theorem zM_27 : zOKa 27 zc_27 := z_auto (cuts := [(9, ([(0, 0), (0, 7), ((-2147483648), 2147483647), ((-2147483648), 2147483647), (0, 7), (0, 128)], [], [some (.inr (.inl (1, 2000))), some (.inl (2, 0)), some (.inl (3, 0)), some (.inl (4, 0)), some (.inl (5, 0)), none], [], [(6, 1, 0)], (0, 0)), [(0, 1), (0, 2), (0, 3), (0, 4)], 1160, [0, 0, 0, 0, 0, (-9)]), (17, ([(0, 0), (0, 7), ((-2147483648), 2147483647), ((-2147483648), 2147483647), (0, 7), (0, 127)], [], [some (.inr (.inl (1, 2000))), some (.inl (2, 0)), some (.inl (3, 0)), some (.inl (4, 0)), some (.inl (5, 0)), none], [], [(6, 1, 0)], (0, 0)), [(0, 1), (0, 2), (0, 3), (0, 4)], 1159, [0, 0, 0, 0, (-1), (-9)])]) (rets := [(79, 3), (132, 3)]) (fuel := 1000) rfl rfl (by decide) (xrt_ok (xR_c (Or.inr (Or.inr (Or.inl ⟨rfl, em27_79, rfl⟩))) (xR_c (Or.inr (Or.inr (Or.inl ⟨rfl, em27_132, rfl⟩))) (xR_n)))) (fun _ _ H _ hd => zTo_27 H hd) (by decide +kernel)
theorem em28_0 : decode prog_5_method_7_code 0 = .ok (.aload_n 0, 1) := by decide +kernel
theorem em28_1 : decode prog_5_method_7_code 1 = .ok (.aload_n 1, 1) := by decide +kernel
theorem em28_2 : decode prog_5_method_7_code 2 = .ok (.aload_n 1, 1) := by decide +kernel
theorem em28_3 : decode prog_5_method_7_code 3 = .ok (.aload_n 0, 1) := by decide +kernel
theorem em28_4 : decode prog_5_method_7_code 4 = .ok (.getfield 30, 3) := by decide +kernel
theorem em28_7 : decode prog_5_method_7_code 7 = .ok (.getfield 53, 3) := by decide +kernel
theorem em28_10 : decode prog_5_method_7_code 10 = .ok (.invokevirtual 100, 3) := by decide +kernel
theorem em28_13 : decode prog_5_method_7_code 13 = .ok (.invokevirtual 103, 3) := by decide +kernel
theorem em28_16 : decode prog_5_method_7_code 16 = .ok (.aload_n 0, 1) := by decide +kernel
theorem em28_17 : decode prog_5_method_7_code 17 = .ok (.invokevirtual 107, 3) := by decide +kernel
theorem em28_20 : decode prog_5_method_7_code 20 = .ok (.return_, 1) := by decide +kernel
/-! CapitalCase$Planner.seek:(LCapitalCase$Town;)V -/
noncomputable def zTr_28 : Nat → Option aF := bn 7 (bn 2 (bn 1 (bl 0 (a_aload 0 1)) (bl 1 (a_aload 1 2))) (bn 3 (bl 2 (a_aload 1 3)) (bn 4 (bl 3 (a_aload 0 4)) (bl 4 (a_getf zG0 zT0 3 0 7))))) (bn 13 (bn 10 (bl 7 (a_getf zG0 zT0 6 1 10)) (bl 10 (a_invV zG0 zprot (true, false) zc_62 (zbd 62) (21, 0, 0) 8 2 13))) (bn 16 (bl 13 (a_invV zG0 zprot (true, false) zc_26 (zbd 26) (21, 0, 0) 3 3 16)) (bn 17 (bl 16 (a_aload 0 17)) (bl 17 (a_invV zG0 zprot (true, false) zc_27 (zbd 27) (21, 0, 0) 3 1 20)))))
set_option maxRecDepth 100000 in
set_option maxHeartbeats 4000000 in
theorem zTo_28 {pre : zPre} {post : zPost} (H : zTieC pre post) {d : Nat × Nat × Nat} (hd : zLe (21, 0, 0) d) : aTr zG0 zT0 zInv (true, false) PZ zbd pre post d prog_5_method_7_code "CapitalCase$Planner" zTr_28 := (xB_n (xB_n (xB_n (xB_l ⟨_, zs_aload_n em28_0, as_aload⟩) (xB_l ⟨_, zs_aload_n em28_1, as_aload⟩)) (xB_n (xB_l ⟨_, zs_aload_n em28_2, as_aload⟩) (xB_n (xB_l ⟨_, zs_aload_n em28_3, as_aload⟩) (xB_l ⟨_, zs_getf (T := TX3) (M := 12) (ci := 3) (j := 0) em28_4 rfl inX3 (by decide) wd_451 ((congrFun xo_4 30).trans rfl), as_getf zTie⟩)))) (xB_n (xB_n (xB_l ⟨_, zs_getf (T := TX6) (M := 15) (ci := 6) (j := 1) em28_7 rfl inX6 (by decide) wd_170 ((congrFun xo_4 53).trans rfl), as_getf zTie⟩) (xB_l ⟨_, zs_invV (T := TX8) em28_10 zl_62 rfl wd_1064 wd_936 wd_937 ((congrFun xo_4 100).trans rfl) xm_58, ag_invV H zh_62 hd (by decide)⟩)) (xB_n (xB_l ⟨_, zs_invV (T := TX3) em28_13 zl_26 rfl wd_1065 wd_944 wd_945 ((congrFun xo_4 103).trans rfl) xm_26, ag_invV H zh_26 hd (by decide)⟩) (xB_n (xB_l ⟨_, zs_aload_n em28_16, as_aload⟩) (xB_l ⟨_, zs_invV (T := TX3) em28_17 zl_27 rfl wd_1066 wd_1068 wd_32 ((congrFun xo_4 107).trans rfl) xm_27, ag_invV H zh_27 hd (by decide)⟩)))))
set_option maxRecDepth 100000 in
set_option maxHeartbeats 4000000 in
theorem zM_28 : zOKa 28 zc_28 := z_auto (cuts := []) (rets := [(20, 3)]) (fuel := 1000) rfl rfl (by decide) (xrt_ok (xR_c (Or.inr (Or.inr (Or.inl ⟨rfl, em28_20, rfl⟩))) (xR_n))) (fun _ _ H _ hd => zTo_28 H hd) (by decide +kernel)
theorem em29_0 : decode prog_5_method_8_code 0 = .ok (.aload_n 0, 1) := by decide +kernel
theorem em29_1 : decode prog_5_method_8_code 1 = .ok (.aload_n 1, 1) := by decide +kernel
theorem em29_2 : decode prog_5_method_8_code 2 = .ok (.aload_n 1, 1) := by decide +kernel
theorem em29_3 : decode prog_5_method_8_code 3 = .ok (.aload_n 0, 1) := by decide +kernel
theorem em29_4 : decode prog_5_method_8_code 4 = .ok (.getfield 30, 3) := by decide +kernel
theorem em29_7 : decode prog_5_method_8_code 7 = .ok (.getfield 53, 3) := by decide +kernel
theorem em29_10 : decode prog_5_method_8_code 10 = .ok (.invokevirtual 100, 3) := by decide +kernel
theorem em29_13 : decode prog_5_method_8_code 13 = .ok (.invokevirtual 103, 3) := by decide +kernel
theorem em29_16 : decode prog_5_method_8_code 16 = .ok (.iconst 0, 1) := by decide +kernel
theorem em29_17 : decode prog_5_method_8_code 17 = .ok (.istore_n 3, 1) := by decide +kernel
theorem em29_18 : decode prog_5_method_8_code 18 = .ok (.iload_n 3, 1) := by decide +kernel
theorem em29_19 : decode prog_5_method_8_code 19 = .ok (.bipush 8, 2) := by decide +kernel
theorem em29_21 : decode prog_5_method_8_code 21 = .ok (.if_icmp .ge 21, 3) := by decide +kernel
theorem em29_24 : decode prog_5_method_8_code 24 = .ok (.aload_n 0, 1) := by decide +kernel
theorem em29_25 : decode prog_5_method_8_code 25 = .ok (.getfield 9, 3) := by decide +kernel
theorem em29_28 : decode prog_5_method_8_code 28 = .ok (.iload_n 2, 1) := by decide +kernel
theorem em29_29 : decode prog_5_method_8_code 29 = .ok (.bipush 8, 2) := by decide +kernel
theorem em29_31 : decode prog_5_method_8_code 31 = .ok (.imul, 1) := by decide +kernel
theorem em29_32 : decode prog_5_method_8_code 32 = .ok (.iload_n 3, 1) := by decide +kernel
theorem em29_33 : decode prog_5_method_8_code 33 = .ok (.iadd, 1) := by decide +kernel
theorem em29_34 : decode prog_5_method_8_code 34 = .ok (.iconst 0, 1) := by decide +kernel
theorem em29_35 : decode prog_5_method_8_code 35 = .ok (.iastore, 1) := by decide +kernel
theorem em29_36 : decode prog_5_method_8_code 36 = .ok (.iinc 3 1, 3) := by decide +kernel
theorem em29_39 : decode prog_5_method_8_code 39 = .ok (.goto (-21), 3) := by decide +kernel
theorem em29_42 : decode prog_5_method_8_code 42 = .ok (.aload_n 0, 1) := by decide +kernel
theorem em29_43 : decode prog_5_method_8_code 43 = .ok (.invokevirtual 107, 3) := by decide +kernel
theorem em29_46 : decode prog_5_method_8_code 46 = .ok (.return_, 1) := by decide +kernel
/-! CapitalCase$Planner.seekWithout:(LCapitalCase$Town;I)V -/
noncomputable def zTr_29 : Nat → Option aF := bn 24 (bn 10 (bn 3 (bn 1 (bl 0 (a_aload 0 1)) (bn 2 (bl 1 (a_aload 1 2)) (bl 2 (a_aload 1 3)))) (bn 4 (bl 3 (a_aload 0 4)) (bn 7 (bl 4 (a_getf zG0 zT0 3 0 7)) (bl 7 (a_getf zG0 zT0 6 1 10))))) (bn 17 (bn 13 (bl 10 (a_invV zG0 zprot (true, false) zc_62 (zbd 62) (21, 0, 0) 8 2 13)) (bn 16 (bl 13 (a_invV zG0 zprot (true, false) zc_26 (zbd 26) (21, 0, 0) 3 3 16)) (bl 16 (a_const 0 17)))) (bn 19 (bn 18 (bl 17 (a_istore 3 18)) (bl 18 (a_iload 3 19))) (bn 21 (bl 19 (a_const 8 21)) (bl 21 (a_icmp 3 42 24)))))) (bn 33 (bn 29 (bn 25 (bl 24 (a_aload 0 25)) (bn 28 (bl 25 (a_getf zG0 zT0 3 2 28)) (bl 28 (a_iload 2 29)))) (bn 31 (bl 29 (a_const 8 31)) (bn 32 (bl 31 (a_bin fmul 32)) (bl 32 (a_iload 3 33))))) (bn 36 (bn 34 (bl 33 (a_bin fadd 34)) (bn 35 (bl 34 (a_const 0 35)) (bl 35 (a_ast zG0 zT0 ts0 36)))) (bn 42 (bn 39 (bl 36 (a_iinc 3 1 39)) (bl 39 (a_goto 18))) (bn 43 (bl 42 (a_aload 0 43)) (bl 43 (a_invV zG0 zprot (true, false) zc_27 (zbd 27) (21, 0, 0) 3 1 46))))))
set_option maxRecDepth 100000 in
set_option maxHeartbeats 4000000 in
theorem zTo_29 {pre : zPre} {post : zPost} (H : zTieC pre post) {d : Nat × Nat × Nat} (hd : zLe (21, 0, 0) d) : aTr zG0 zT0 zInv (true, false) PZ zbd pre post d prog_5_method_8_code "CapitalCase$Planner" zTr_29 := (xB_n (xB_n (xB_n (xB_n (xB_l ⟨_, zs_aload_n em29_0, as_aload⟩) (xB_n (xB_l ⟨_, zs_aload_n em29_1, as_aload⟩) (xB_l ⟨_, zs_aload_n em29_2, as_aload⟩))) (xB_n (xB_l ⟨_, zs_aload_n em29_3, as_aload⟩) (xB_n (xB_l ⟨_, zs_getf (T := TX3) (M := 12) (ci := 3) (j := 0) em29_4 rfl inX3 (by decide) wd_451 ((congrFun xo_4 30).trans rfl), as_getf zTie⟩) (xB_l ⟨_, zs_getf (T := TX6) (M := 15) (ci := 6) (j := 1) em29_7 rfl inX6 (by decide) wd_170 ((congrFun xo_4 53).trans rfl), as_getf zTie⟩)))) (xB_n (xB_n (xB_l ⟨_, zs_invV (T := TX8) em29_10 zl_62 rfl wd_1064 wd_936 wd_937 ((congrFun xo_4 100).trans rfl) xm_58, ag_invV H zh_62 hd (by decide)⟩) (xB_n (xB_l ⟨_, zs_invV (T := TX3) em29_13 zl_26 rfl wd_1065 wd_944 wd_945 ((congrFun xo_4 103).trans rfl) xm_26, ag_invV H zh_26 hd (by decide)⟩) (xB_l ⟨_, zs_iconst (v := 0) em29_16 (by decide +kernel), as_const (by decide +kernel)⟩))) (xB_n (xB_n (xB_l ⟨_, zs_istore_n em29_17, as_istore⟩) (xB_l ⟨_, zs_iload_n em29_18, as_iload⟩)) (xB_n (xB_l ⟨_, zs_bipush (v := 8) em29_19 (by decide +kernel), as_const (by decide +kernel)⟩) (xB_l ⟨_, zs_icmpge em29_21 (t := 42) (by decide), as_icmp⟩))))) (xB_n (xB_n (xB_n (xB_l ⟨_, zs_aload_n em29_24, as_aload⟩) (xB_n (xB_l ⟨_, zs_getf (T := TX3) (M := 12) (ci := 3) (j := 2) em29_25 rfl inX3 (by decide) wd_453 ((congrFun xo_4 9).trans rfl), as_getf zTie⟩) (xB_l ⟨_, zs_iload_n em29_28, as_iload⟩))) (xB_n (xB_l ⟨_, zs_bipush (v := 8) em29_29 (by decide +kernel), as_const (by decide +kernel)⟩) (xB_n (xB_l ⟨_, zs_imul em29_31, as_bin fmul_ok⟩) (xB_l ⟨_, zs_iload_n em29_32, as_iload⟩)))) (xB_n (xB_n (xB_l ⟨_, zs_iadd em29_33, as_bin fadd_ok⟩) (xB_n (xB_l ⟨_, zs_iconst (v := 0) em29_34 (by decide +kernel), as_const (by decide +kernel)⟩) (xB_l ⟨_, zs_iast zInj0 em29_35, as_iast zTie⟩))) (xB_n (xB_n (xB_l ⟨_, zs_iinc (k := 1) em29_36 (by decide +kernel), as_iinc (by decide +kernel)⟩) (xB_l ⟨_, zs_goto em29_39 (t := 18) (by decide), as_goto⟩)) (xB_n (xB_l ⟨_, zs_aload_n em29_42, as_aload⟩) (xB_l ⟨_, zs_invV (T := TX3) em29_43 zl_27 rfl wd_1066 wd_1068 wd_32 ((congrFun xo_4 107).trans rfl) xm_27, ag_invV H zh_27 hd (by decide)⟩))))))
set_option maxRecDepth 100000 in
set_option maxHeartbeats 4000000 in
theorem zM_29 : zOKa 29 zc_29 := z_auto (cuts := [(18, ([(0, 0), (0, 4), (0, 408), (0, 5), (0, 7), (0, 8)], [], [some (.inr (.inl (1, 2000))), some (.inr (.inl (1, 1000))), some (.inl (1, 0)), some (.inl (5, 0))], [], [(4, 2, 0), (5, 3, 0), (6, 4, 0)], (0, 0)), [(0, 3)], 8, [0, 0, 0, 0, 0, (-1)])]) (rets := [(46, 3)]) (fuel := 1000) rfl rfl (by decide) (xrt_ok (xR_c (Or.inr (Or.inr (Or.inl ⟨rfl, em29_46, rfl⟩))) (xR_n))) (fun _ _ H _ hd => zTo_29 H hd) (by decide +kernel)
theorem em30_0 : decode prog_5_method_4_code 0 = .ok (.aload_n 0, 1) := by decide +kernel
theorem em30_1 : decode prog_5_method_4_code 1 = .ok (.iconst 0, 1) := by decide +kernel
theorem em30_2 : decode prog_5_method_4_code 2 = .ok (.putfield 84, 3) := by decide +kernel
theorem em30_5 : decode prog_5_method_4_code 5 = .ok (.iconst 0, 1) := by decide +kernel
theorem em30_6 : decode prog_5_method_4_code 6 = .ok (.istore_n 2, 1) := by decide +kernel
theorem em30_7 : decode prog_5_method_4_code 7 = .ok (.iload_n 2, 1) := by decide +kernel
theorem em30_8 : decode prog_5_method_4_code 8 = .ok (.aload_n 0, 1) := by decide +kernel
theorem em30_9 : decode prog_5_method_4_code 9 = .ok (.getfield 30, 3) := by decide +kernel
theorem em30_12 : decode prog_5_method_4_code 12 = .ok (.getfield 87, 3) := by decide +kernel
theorem em30_15 : decode prog_5_method_4_code 15 = .ok (.iload_n 1, 1) := by decide +kernel
theorem em30_16 : decode prog_5_method_4_code 16 = .ok (.iaload, 1) := by decide +kernel
theorem em30_17 : decode prog_5_method_4_code 17 = .ok (.if_icmp .ge 75, 3) := by decide +kernel
theorem em30_20 : decode prog_5_method_4_code 20 = .ok (.aload_n 0, 1) := by decide +kernel
theorem em30_21 : decode prog_5_method_4_code 21 = .ok (.getfield 30, 3) := by decide +kernel
theorem em30_24 : decode prog_5_method_4_code 24 = .ok (.getfield 90, 3) := by decide +kernel
theorem em30_27 : decode prog_5_method_4_code 27 = .ok (.iload_n 1, 1) := by decide +kernel
theorem em30_28 : decode prog_5_method_4_code 28 = .ok (.bipush 8, 2) := by decide +kernel
theorem em30_30 : decode prog_5_method_4_code 30 = .ok (.imul, 1) := by decide +kernel
theorem em30_31 : decode prog_5_method_4_code 31 = .ok (.iload_n 2, 1) := by decide +kernel
theorem em30_32 : decode prog_5_method_4_code 32 = .ok (.iadd, 1) := by decide +kernel
theorem em30_33 : decode prog_5_method_4_code 33 = .ok (.iaload, 1) := by decide +kernel
theorem em30_34 : decode prog_5_method_4_code 34 = .ok (.istore_n 3, 1) := by decide +kernel
theorem em30_35 : decode prog_5_method_4_code 35 = .ok (.aload_n 0, 1) := by decide +kernel
theorem em30_36 : decode prog_5_method_4_code 36 = .ok (.iload_n 1, 1) := by decide +kernel
theorem em30_37 : decode prog_5_method_4_code 37 = .ok (.iload_n 3, 1) := by decide +kernel
theorem em30_38 : decode prog_5_method_4_code 38 = .ok (.invokevirtual 93, 3) := by decide +kernel
theorem em30_41 : decode prog_5_method_4_code 41 = .ok (.istore 4, 2) := by decide +kernel
theorem em30_43 : decode prog_5_method_4_code 43 = .ok (.iload 4, 2) := by decide +kernel
theorem em30_45 : decode prog_5_method_4_code 45 = .ok (.iconst (-1), 1) := by decide +kernel
theorem em30_46 : decode prog_5_method_4_code 46 = .ok (.if_icmp .ne 11, 3) := by decide +kernel
theorem em30_49 : decode prog_5_method_4_code 49 = .ok (.aload_n 0, 1) := by decide +kernel
theorem em30_50 : decode prog_5_method_4_code 50 = .ok (.iload_n 1, 1) := by decide +kernel
theorem em30_51 : decode prog_5_method_4_code 51 = .ok (.iload_n 2, 1) := by decide +kernel
theorem em30_52 : decode prog_5_method_4_code 52 = .ok (.invokevirtual 96, 3) := by decide +kernel
theorem em30_55 : decode prog_5_method_4_code 55 = .ok (.iconst 0, 1) := by decide +kernel
theorem em30_56 : decode prog_5_method_4_code 56 = .ok (.ireturn, 1) := by decide +kernel
theorem em30_57 : decode prog_5_method_4_code 57 = .ok (.aload_n 0, 1) := by decide +kernel
theorem em30_58 : decode prog_5_method_4_code 58 = .ok (.getfield 15, 3) := by decide +kernel
theorem em30_61 : decode prog_5_method_4_code 61 = .ok (.iload_n 1, 1) := by decide +kernel
theorem em30_62 : decode prog_5_method_4_code 62 = .ok (.bipush 8, 2) := by decide +kernel
theorem em30_64 : decode prog_5_method_4_code 64 = .ok (.imul, 1) := by decide +kernel
theorem em30_65 : decode prog_5_method_4_code 65 = .ok (.iload_n 2, 1) := by decide +kernel
theorem em30_66 : decode prog_5_method_4_code 66 = .ok (.iadd, 1) := by decide +kernel
theorem em30_67 : decode prog_5_method_4_code 67 = .ok (.iload 4, 2) := by decide +kernel
theorem em30_69 : decode prog_5_method_4_code 69 = .ok (.iastore, 1) := by decide +kernel
theorem em30_70 : decode prog_5_method_4_code 70 = .ok (.aload_n 0, 1) := by decide +kernel
theorem em30_71 : decode prog_5_method_4_code 71 = .ok (.getfield 9, 3) := by decide +kernel
theorem em30_74 : decode prog_5_method_4_code 74 = .ok (.iload 4, 2) := by decide +kernel
theorem em30_76 : decode prog_5_method_4_code 76 = .ok (.bipush 8, 2) := by decide +kernel
theorem em30_78 : decode prog_5_method_4_code 78 = .ok (.imul, 1) := by decide +kernel
theorem em30_79 : decode prog_5_method_4_code 79 = .ok (.iload_n 3, 1) := by decide +kernel
theorem em30_80 : decode prog_5_method_4_code 80 = .ok (.iadd, 1) := by decide +kernel
theorem em30_81 : decode prog_5_method_4_code 81 = .ok (.dup2, 1) := by decide +kernel
theorem em30_82 : decode prog_5_method_4_code 82 = .ok (.iaload, 1) := by decide +kernel
theorem em30_83 : decode prog_5_method_4_code 83 = .ok (.iconst 1, 1) := by decide +kernel
theorem em30_84 : decode prog_5_method_4_code 84 = .ok (.isub, 1) := by decide +kernel
theorem em30_85 : decode prog_5_method_4_code 85 = .ok (.iastore, 1) := by decide +kernel
theorem em30_86 : decode prog_5_method_4_code 86 = .ok (.iinc 2 1, 3) := by decide +kernel
theorem em30_89 : decode prog_5_method_4_code 89 = .ok (.goto (-82), 3) := by decide +kernel
theorem em30_92 : decode prog_5_method_4_code 92 = .ok (.iconst 1, 1) := by decide +kernel
theorem em30_93 : decode prog_5_method_4_code 93 = .ok (.ireturn, 1) := by decide +kernel
/-! CapitalCase$Planner.take:(I)Z -/
noncomputable def zTr_30 : Nat → Option aF := bn 46 (bn 24 (bn 9 (bn 5 (bn 1 (bl 0 (a_aload 0 1)) (bn 2 (bl 1 (a_const 0 2)) (bl 2 (a_puti zG0 zT0 zprot 3 5 0 5)))) (bn 7 (bn 6 (bl 5 (a_const 0 6)) (bl 6 (a_istore 2 7))) (bn 8 (bl 7 (a_iload 2 8)) (bl 8 (a_aload 0 9))))) (bn 16 (bn 12 (bl 9 (a_getf zG0 zT0 3 0 12)) (bn 15 (bl 12 (a_getf zG0 zT0 6 8 15)) (bl 15 (a_iload 1 16)))) (bn 20 (bn 17 (bl 16 (a_ald zG0 zT0 (true, false) ts0 17)) (bl 17 (a_icmp 3 92 20))) (bn 21 (bl 20 (a_aload 0 21)) (bl 21 (a_getf zG0 zT0 3 0 24)))))) (bn 34 (bn 30 (bn 27 (bl 24 (a_getf zG0 zT0 6 9 27)) (bn 28 (bl 27 (a_iload 1 28)) (bl 28 (a_const 8 30)))) (bn 32 (bn 31 (bl 30 (a_bin fmul 31)) (bl 31 (a_iload 2 32))) (bn 33 (bl 32 (a_bin fadd 33)) (bl 33 (a_ald zG0 zT0 (true, false) ts0 34))))) (bn 38 (bn 36 (bn 35 (bl 34 (a_istore 3 35)) (bl 35 (a_aload 0 36))) (bn 37 (bl 36 (a_iload 1 37)) (bl 37 (a_iload 3 38)))) (bn 43 (bn 41 (bl 38 (a_invV zG0 zprot (true, false) zc_25 (zbd 25) (1, 0, 0) 3 3 41)) (bl 41 (a_istore 4 43))) (bn 45 (bl 43 (a_iload 4 45)) (bl 45 (a_const (-1) 46))))))) (bn 70 (bn 58 (bn 51 (bn 49 (bl 46 (a_icmp 1 57 49)) (bn 50 (bl 49 (a_aload 0 50)) (bl 50 (a_iload 1 51)))) (bn 55 (bn 52 (bl 51 (a_iload 2 52)) (bl 52 (a_invV zG0 zprot (true, false) zc_21 (zbd 21) (1, 0, 0) 3 3 55))) (bn 57 (bl 55 (a_const 0 56)) (bl 57 (a_aload 0 58))))) (bn 65 (bn 62 (bn 61 (bl 58 (a_getf zG0 zT0 3 3 61)) (bl 61 (a_iload 1 62))) (bn 64 (bl 62 (a_const 8 64)) (bl 64 (a_bin fmul 65)))) (bn 67 (bn 66 (bl 65 (a_iload 2 66)) (bl 66 (a_bin fadd 67))) (bn 69 (bl 67 (a_iload 4 69)) (bl 69 (a_ast zG0 zT0 ts0 70)))))) (bn 81 (bn 76 (bn 71 (bl 70 (a_aload 0 71)) (bn 74 (bl 71 (a_getf zG0 zT0 3 2 74)) (bl 74 (a_iload 4 76)))) (bn 79 (bn 78 (bl 76 (a_const 8 78)) (bl 78 (a_bin fmul 79))) (bn 80 (bl 79 (a_iload 3 80)) (bl 80 (a_bin fadd 81))))) (bn 85 (bn 83 (bn 82 (bl 81 (a_dup2 82)) (bl 82 (a_ald zG0 zT0 (true, false) ts0 83))) (bn 84 (bl 83 (a_const 1 84)) (bl 84 (a_bin fsub 85)))) (bn 89 (bn 86 (bl 85 (a_ast zG0 zT0 ts0 86)) (bl 86 (a_iinc 2 1 89))) (bn 92 (bl 89 (a_goto 7)) (bl 92 (a_const 1 93)))))))
set_option maxRecDepth 100000 in
set_option maxHeartbeats 4000000 in
theorem zTo_30 {pre : zPre} {post : zPost} (H : zTieC pre post) {d : Nat × Nat × Nat} (hd : zLe (1, 0, 0) d) : aTr zG0 zT0 zInv (true, false) PZ zbd pre post d prog_5_method_4_code "CapitalCase$Planner" zTr_30 := (xB_n (xB_n (xB_n (xB_n (xB_n (xB_l ⟨_, zs_aload_n em30_0, as_aload⟩) (xB_n (xB_l ⟨_, zs_iconst (v := 0) em30_1 (by decide +kernel), as_const (by decide +kernel)⟩) (xB_l ⟨_, zs_puti zInj0 (T := TX3) (M := 12) (ty := tyX3) (ci := 3) (j := 5) (kd := 0) em30_2 rfl inX3 tyX3_ok nmX3 (by decide) wd_459 (Or.inl ⟨rfl, rfl⟩) rfl ((congrFun xo_4 84).trans rfl), ag_puti0⟩))) (xB_n (xB_n (xB_l ⟨_, zs_iconst (v := 0) em30_5 (by decide +kernel), as_const (by decide +kernel)⟩) (xB_l ⟨_, zs_istore_n em30_6, as_istore⟩)) (xB_n (xB_l ⟨_, zs_iload_n em30_7, as_iload⟩) (xB_l ⟨_, zs_aload_n em30_8, as_aload⟩)))) (xB_n (xB_n (xB_l ⟨_, zs_getf (T := TX3) (M := 12) (ci := 3) (j := 0) em30_9 rfl inX3 (by decide) wd_451 ((congrFun xo_4 30).trans rfl), as_getf zTie⟩) (xB_n (xB_l ⟨_, zs_getf (T := TX6) (M := 15) (ci := 6) (j := 8) em30_12 rfl inX6 (by decide) wd_196 ((congrFun xo_4 87).trans rfl), as_getf zTie⟩) (xB_l ⟨_, zs_iload_n em30_15, as_iload⟩))) (xB_n (xB_n (xB_l ⟨_, zs_iald em30_16, ag_iald⟩) (xB_l ⟨_, zs_icmpge em30_17 (t := 92) (by decide), as_icmp⟩)) (xB_n (xB_l ⟨_, zs_aload_n em30_20, as_aload⟩) (xB_l ⟨_, zs_getf (T := TX3) (M := 12) (ci := 3) (j := 0) em30_21 rfl inX3 (by decide) wd_451 ((congrFun xo_4 30).trans rfl), as_getf zTie⟩))))) (xB_n (xB_n (xB_n (xB_l ⟨_, zs_getf (T := TX6) (M := 15) (ci := 6) (j := 9) em30_24 rfl inX6 (by decide) wd_203 ((congrFun xo_4 90).trans rfl), as_getf zTie⟩) (xB_n (xB_l ⟨_, zs_iload_n em30_27, as_iload⟩) (xB_l ⟨_, zs_bipush (v := 8) em30_28 (by decide +kernel), as_const (by decide +kernel)⟩))) (xB_n (xB_n (xB_l ⟨_, zs_imul em30_30, as_bin fmul_ok⟩) (xB_l ⟨_, zs_iload_n em30_31, as_iload⟩)) (xB_n (xB_l ⟨_, zs_iadd em30_32, as_bin fadd_ok⟩) (xB_l ⟨_, zs_iald em30_33, ag_iald⟩)))) (xB_n (xB_n (xB_n (xB_l ⟨_, zs_istore_n em30_34, as_istore⟩) (xB_l ⟨_, zs_aload_n em30_35, as_aload⟩)) (xB_n (xB_l ⟨_, zs_iload_n em30_36, as_iload⟩) (xB_l ⟨_, zs_iload_n em30_37, as_iload⟩))) (xB_n (xB_n (xB_l ⟨_, zs_invV (T := TX3) em30_38 zl_25 rfl wd_959 wd_961 wd_29 ((congrFun xo_4 93).trans rfl) xm_25, ag_invV H zh_25 hd (by decide)⟩) (xB_l ⟨_, zs_istore em30_41, as_istore⟩)) (xB_n (xB_l ⟨_, zs_iload em30_43, as_iload⟩) (xB_l ⟨_, zs_iconst (v := (-1)) em30_45 (by decide +kernel), as_const (by decide +kernel)⟩)))))) (xB_n (xB_n (xB_n (xB_n (xB_l ⟨_, zs_icmpne em30_46 (t := 57) (by decide), as_icmp⟩) (xB_n (xB_l ⟨_, zs_aload_n em30_49, as_aload⟩) (xB_l ⟨_, zs_iload_n em30_50, as_iload⟩))) (xB_n (xB_n (xB_l ⟨_, zs_iload_n em30_51, as_iload⟩) (xB_l ⟨_, zs_invV (T := TX3) em30_52 zl_21 rfl wd_963 wd_964 wd_965 ((congrFun xo_4 96).trans rfl) xm_21, ag_invV H zh_21 hd (by decide)⟩)) (xB_n (xB_l ⟨_, zs_iconst (v := 0) em30_55 (by decide +kernel), as_const (by decide +kernel)⟩) (xB_l ⟨_, zs_aload_n em30_57, as_aload⟩)))) (xB_n (xB_n (xB_n (xB_l ⟨_, zs_getf (T := TX3) (M := 12) (ci := 3) (j := 3) em30_58 rfl inX3 (by decide) wd_454 ((congrFun xo_4 15).trans rfl), as_getf zTie⟩) (xB_l ⟨_, zs_iload_n em30_61, as_iload⟩)) (xB_n (xB_l ⟨_, zs_bipush (v := 8) em30_62 (by decide +kernel), as_const (by decide +kernel)⟩) (xB_l ⟨_, zs_imul em30_64, as_bin fmul_ok⟩))) (xB_n (xB_n (xB_l ⟨_, zs_iload_n em30_65, as_iload⟩) (xB_l ⟨_, zs_iadd em30_66, as_bin fadd_ok⟩)) (xB_n (xB_l ⟨_, zs_iload em30_67, as_iload⟩) (xB_l ⟨_, zs_iast zInj0 em30_69, as_iast zTie⟩))))) (xB_n (xB_n (xB_n (xB_l ⟨_, zs_aload_n em30_70, as_aload⟩) (xB_n (xB_l ⟨_, zs_getf (T := TX3) (M := 12) (ci := 3) (j := 2) em30_71 rfl inX3 (by decide) wd_453 ((congrFun xo_4 9).trans rfl), as_getf zTie⟩) (xB_l ⟨_, zs_iload em30_74, as_iload⟩))) (xB_n (xB_n (xB_l ⟨_, zs_bipush (v := 8) em30_76 (by decide +kernel), as_const (by decide +kernel)⟩) (xB_l ⟨_, zs_imul em30_78, as_bin fmul_ok⟩)) (xB_n (xB_l ⟨_, zs_iload_n em30_79, as_iload⟩) (xB_l ⟨_, zs_iadd em30_80, as_bin fadd_ok⟩)))) (xB_n (xB_n (xB_n (xB_l ⟨_, zs_dup2 em30_81, as_dup2⟩) (xB_l ⟨_, zs_iald em30_82, ag_iald⟩)) (xB_n (xB_l ⟨_, zs_iconst (v := 1) em30_83 (by decide +kernel), as_const (by decide +kernel)⟩) (xB_l ⟨_, zs_isub em30_84, as_bin fsub_ok⟩))) (xB_n (xB_n (xB_l ⟨_, zs_iast zInj0 em30_85, as_iast zTie⟩) (xB_l ⟨_, zs_iinc (k := 1) em30_86 (by decide +kernel), as_iinc (by decide +kernel)⟩)) (xB_n (xB_l ⟨_, zs_goto em30_89 (t := 7) (by decide), as_goto⟩) (xB_l ⟨_, zs_iconst (v := 1) em30_92 (by decide +kernel), as_const (by decide +kernel)⟩)))))))
set_option maxRecDepth 100000 in
set_option maxHeartbeats 4000000 in
theorem zM_30 : zOKa 30 zc_30 := z_auto (cuts := [(7, ([(0, 0), (0, 6), (0, 8)], [], [some (.inr (.inl (1, 2000))), some (.inl (1, 0)), some (.inl (2, 0)), none, none], [], [], (0, 0)), [(0, 2)], 8, [0, 0, (-1)])]) (rets := [(56, 2), (93, 2)]) (fuel := 1000) rfl rfl (by decide) (xrt_ok (xR_c (Or.inr (Or.inl ⟨rfl, em30_56, rfl⟩)) (xR_c (Or.inr (Or.inl ⟨rfl, em30_93, rfl⟩)) (xR_n)))) (fun _ _ H _ hd => zTo_30 H hd) (by decide +kernel)
theorem em31_0 : decode prog_6_method_10_code 0 = .ok (.iconst 1, 1) := by decide +kernel
theorem em31_1 : decode prog_6_method_10_code 1 = .ok (.istore 4, 2) := by decide +kernel
theorem em31_3 : decode prog_6_method_10_code 3 = .ok (.iload 4, 2) := by decide +kernel
theorem em31_5 : decode prog_6_method_10_code 5 = .ok (.sipush 200, 3) := by decide +kernel
theorem em31_8 : decode prog_6_method_10_code 8 = .ok (.if_icmp .gt 32, 3) := by decide +kernel
theorem em31_11 : decode prog_6_method_10_code 11 = .ok (.aload_n 0, 1) := by decide +kernel
theorem em31_12 : decode prog_6_method_10_code 12 = .ok (.aload_n 1, 1) := by decide +kernel
theorem em31_13 : decode prog_6_method_10_code 13 = .ok (.iload_n 2, 1) := by decide +kernel
theorem em31_14 : decode prog_6_method_10_code 14 = .ok (.iload_n 3, 1) := by decide +kernel
theorem em31_15 : decode prog_6_method_10_code 15 = .ok (.invokevirtual 60, 3) := by decide +kernel
theorem em31_18 : decode prog_6_method_10_code 18 = .ok (.ifCond .eq 6, 3) := by decide +kernel
theorem em31_21 : decode prog_6_method_10_code 21 = .ok (.iload 4, 2) := by decide +kernel
theorem em31_23 : decode prog_6_method_10_code 23 = .ok (.ireturn, 1) := by decide +kernel
theorem em31_24 : decode prog_6_method_10_code 24 = .ok (.aload_n 1, 1) := by decide +kernel
theorem em31_25 : decode prog_6_method_10_code 25 = .ok (.dup, 1) := by decide +kernel
theorem em31_26 : decode prog_6_method_10_code 26 = .ok (.getfield 27, 3) := by decide +kernel
theorem em31_29 : decode prog_6_method_10_code 29 = .ok (.iconst 1, 1) := by decide +kernel
theorem em31_30 : decode prog_6_method_10_code 30 = .ok (.iadd, 1) := by decide +kernel
theorem em31_31 : decode prog_6_method_10_code 31 = .ok (.putfield 27, 3) := by decide +kernel
theorem em31_34 : decode prog_6_method_10_code 34 = .ok (.iinc 4 1, 3) := by decide +kernel
theorem em31_37 : decode prog_6_method_10_code 37 = .ok (.goto (-34), 3) := by decide +kernel
theorem em31_40 : decode prog_6_method_10_code 40 = .ok (.bipush (-2), 2) := by decide +kernel
theorem em31_42 : decode prog_6_method_10_code 42 = .ok (.ireturn, 1) := by decide +kernel
/-! CapitalCase$Press.daysTillWornOut:(LCapitalCase$Town;II)I -/
noncomputable def zTr_31 : Nat → Option aF := bn 18 (bn 11 (bn 3 (bn 1 (bl 0 (a_const 1 1)) (bl 1 (a_istore 4 3))) (bn 5 (bl 3 (a_iload 4 5)) (bn 8 (bl 5 (a_const 200 8)) (bl 8 (a_icmp 4 40 11))))) (bn 13 (bn 12 (bl 11 (a_aload 0 12)) (bl 12 (a_aload 1 13))) (bn 14 (bl 13 (a_iload 2 14)) (bn 15 (bl 14 (a_iload 3 15)) (bl 15 (a_invV zG0 zprot (true, false) zc_39 (zbd 39) (8, 0, 0) 4 4 18)))))) (bn 29 (bn 24 (bn 21 (bl 18 (a_if 0 24 21)) (bl 21 (a_iload 4 23))) (bn 25 (bl 24 (a_aload 1 25)) (bn 26 (bl 25 (a_dup 26)) (bl 26 (a_getf zG0 zT0 8 7 29))))) (bn 34 (bn 30 (bl 29 (a_const 1 30)) (bn 31 (bl 30 (a_bin fadd 31)) (bl 31 (a_puti zG0 zT0 zprot 8 7 0 34)))) (bn 37 (bl 34 (a_iinc 4 1 37)) (bn 40 (bl 37 (a_goto 3)) (bl 40 (a_const (-2) 42))))))
set_option maxRecDepth 100000 in
set_option maxHeartbeats 4000000 in
theorem zTo_31 {pre : zPre} {post : zPost} (H : zTieC pre post) {d : Nat × Nat × Nat} (hd : zLe (8, 0, 0) d) : aTr zG0 zT0 zInv (true, false) PZ zbd pre post d prog_6_method_10_code "CapitalCase$Press" zTr_31 := (xB_n (xB_n (xB_n (xB_n (xB_l ⟨_, zs_iconst (v := 1) em31_0 (by decide +kernel), as_const (by decide +kernel)⟩) (xB_l ⟨_, zs_istore em31_1, as_istore⟩)) (xB_n (xB_l ⟨_, zs_iload em31_3, as_iload⟩) (xB_n (xB_l ⟨_, zs_sipush (v := 200) em31_5 (by decide +kernel), as_const (by decide +kernel)⟩) (xB_l ⟨_, zs_icmpgt em31_8 (t := 40) (by decide), as_icmp⟩)))) (xB_n (xB_n (xB_l ⟨_, zs_aload_n em31_11, as_aload⟩) (xB_l ⟨_, zs_aload_n em31_12, as_aload⟩)) (xB_n (xB_l ⟨_, zs_iload_n em31_13, as_iload⟩) (xB_n (xB_l ⟨_, zs_iload_n em31_14, as_iload⟩) (xB_l ⟨_, zs_invV (T := TX4) em31_15 zl_39 rfl wd_1018 wd_1020 wd_30 ((congrFun xo_5 60).trans rfl) xm_38, ag_invV H zh_39 hd (by decide)⟩))))) (xB_n (xB_n (xB_n (xB_l ⟨_, zs_ifeq em31_18 (t := 24) (by decide), as_if⟩) (xB_l ⟨_, zs_iload em31_21, as_iload⟩)) (xB_n (xB_l ⟨_, zs_aload_n em31_24, as_aload⟩) (xB_n (xB_l ⟨_, zs_dup em31_25, as_dup⟩) (xB_l ⟨_, zs_getf (T := TX8) (M := 10) (ci := 8) (j := 7) em31_26 rfl inX8 (by decide) wd_344 ((congrFun xo_5 27).trans rfl), as_getf zTie⟩)))) (xB_n (xB_n (xB_l ⟨_, zs_iconst (v := 1) em31_29 (by decide +kernel), as_const (by decide +kernel)⟩) (xB_n (xB_l ⟨_, zs_iadd em31_30, as_bin fadd_ok⟩) (xB_l ⟨_, zs_puti zInj0 (T := TX8) (M := 10) (ty := tyX8) (ci := 8) (j := 7) (kd := 0) em31_31 rfl inX8 tyX8_ok nmX8 (by decide) wd_344 (Or.inl ⟨rfl, rfl⟩) rfl ((congrFun xo_5 27).trans rfl), ag_puti0⟩))) (xB_n (xB_l ⟨_, zs_iinc (k := 1) em31_34 (by decide +kernel), as_iinc (by decide +kernel)⟩) (xB_n (xB_l ⟨_, zs_goto em31_37 (t := 3) (by decide), as_goto⟩) (xB_l ⟨_, zs_bipush (v := (-2)) em31_40 (by decide +kernel), as_const (by decide +kernel)⟩))))))
set_option maxRecDepth 100000 in
set_option maxHeartbeats 4000000 in
theorem zM_31 : zOKa 31 zc_31 := z_auto (cuts := [(3, ([(0, 0), (0, 4), (0, 7), (0, 408), (1, 201)], [], [some (.inr (.inl (0, 51))), some (.inr (.inl (1, 1000))), some (.inl (1, 0)), some (.inl (2, 0)), some (.inl (4, 0))], [], [(4, 3, 0)], (0, 0)), [(0, 4)], 201, [0, 0, 0, 0, (-1)])]) (rets := [(23, 1), (42, 1)]) (fuel := 1000) rfl rfl (by decide) (xrt_ok (xR_c (Or.inl ⟨rfl, em31_23, rfl⟩) (xR_c (Or.inl ⟨rfl, em31_42, rfl⟩) (xR_n)))) (fun _ _ H _ hd => zTo_31 H hd) (by decide +kernel)
theorem em32_0 : decode prog_6_method_8_code 0 = .ok (.iload_n 1, 1) := by decide +kernel
theorem em32_1 : decode prog_6_method_8_code 1 = .ok (.bipush 121, 2) := by decide +kernel
theorem em32_3 : decode prog_6_method_8_code 3 = .ok (.invokestatic 101, 3) := by decide +kernel
theorem em32_6 : decode prog_6_method_8_code 6 = .ok (.iload_n 2, 1) := by decide +kernel
theorem em32_7 : decode prog_6_method_8_code 7 = .ok (.invokestatic 101, 3) := by decide +kernel
theorem em32_10 : decode prog_6_method_8_code 10 = .ok (.iconst 1, 1) := by decide +kernel
theorem em32_11 : decode prog_6_method_8_code 11 = .ok (.iushr, 1) := by decide +kernel
theorem em32_12 : decode prog_6_method_8_code 12 = .ok (.istore_n 3, 1) := by decide +kernel
theorem em32_13 : decode prog_6_method_8_code 13 = .ok (.iload_n 0, 1) := by decide +kernel
theorem em32_14 : decode prog_6_method_8_code 14 = .ok (.ifCond .le 9, 3) := by decide +kernel
theorem em32_17 : decode prog_6_method_8_code 17 = .ok (.iload_n 3, 1) := by decide +kernel
theorem em32_18 : decode prog_6_method_8_code 18 = .ok (.iload_n 0, 1) := by decide +kernel
theorem em32_19 : decode prog_6_method_8_code 19 = .ok (.irem, 1) := by decide +kernel
theorem em32_20 : decode prog_6_method_8_code 20 = .ok (.goto 4, 3) := by decide +kernel
theorem em32_23 : decode prog_6_method_8_code 23 = .ok (.iconst 0, 1) := by decide +kernel
theorem em32_24 : decode prog_6_method_8_code 24 = .ok (.ireturn, 1) := by decide +kernel
/-! CapitalCase$Press.lot:(III)I -/
noncomputable def zTr_32 : Nat → Option aF := bn 12 (bn 6 (bn 1 (bl 0 (a_iload 1 1)) (bn 3 (bl 1 (a_const 121 3)) (bl 3 (a_inv zG0 zprot (false, false) zc_34 (zbd 34) (1, 0, 0) 2 6)))) (bn 10 (bn 7 (bl 6 (a_iload 2 7)) (bl 7 (a_inv zG0 zprot (false, false) zc_34 (zbd 34) (1, 0, 0) 2 10))) (bn 11 (bl 10 (a_const 1 11)) (bl 11 (a_bin fushr 12))))) (bn 18 (bn 14 (bn 13 (bl 12 (a_istore 3 13)) (bl 13 (a_iload 0 14))) (bn 17 (bl 14 (a_if 5 23 17)) (bl 17 (a_iload 3 18)))) (bn 20 (bn 19 (bl 18 (a_iload 0 19)) (bl 19 (a_div frem 20))) (bn 23 (bl 20 (a_goto 24)) (bl 23 (a_const 0 24)))))
set_option maxRecDepth 100000 in
set_option maxHeartbeats 4000000 in
theorem zTo_32 {pre : zPre} {post : zPost} (H : zTieC pre post) {d : Nat × Nat × Nat} (hd : zLe (1, 0, 0) d) : aTr zG0 zT0 zInv (false, false) PZ zbd pre post d prog_6_method_8_code "CapitalCase$Press" zTr_32 := (xB_n (xB_n (xB_n (xB_l ⟨_, zs_iload_n em32_0, as_iload⟩) (xB_n (xB_l ⟨_, zs_bipush (v := 121) em32_1 (by decide +kernel), as_const (by decide +kernel)⟩) (xB_l ⟨_, zs_invS em32_3 zl_34 wd_1039 wd_1040 ((congrFun xo_5 101).trans rfl) xm_33, ag_inv H zh_34 hd (by decide)⟩))) (xB_n (xB_n (xB_l ⟨_, zs_iload_n em32_6, as_iload⟩) (xB_l ⟨_, zs_invS em32_7 zl_34 wd_1039 wd_1040 ((congrFun xo_5 101).trans rfl) xm_33, ag_inv H zh_34 hd (by decide)⟩)) (xB_n (xB_l ⟨_, zs_iconst (v := 1) em32_10 (by decide +kernel), as_const (by decide +kernel)⟩) (xB_l ⟨_, zs_iushr em32_11, as_bin fushr_ok⟩)))) (xB_n (xB_n (xB_n (xB_l ⟨_, zs_istore_n em32_12, as_istore⟩) (xB_l ⟨_, zs_iload_n em32_13, as_iload⟩)) (xB_n (xB_l ⟨_, zs_ifle em32_14 (t := 23) (by decide), as_if⟩) (xB_l ⟨_, zs_iload_n em32_17, as_iload⟩))) (xB_n (xB_n (xB_l ⟨_, zs_iload_n em32_18, as_iload⟩) (xB_l ⟨_, zs_irem em32_19, as_div frem_ok⟩)) (xB_n (xB_l ⟨_, zs_goto em32_20 (t := 24) (by decide), as_goto⟩) (xB_l ⟨_, zs_iconst (v := 0) em32_23 (by decide +kernel), as_const (by decide +kernel)⟩)))))
set_option maxRecDepth 100000 in
set_option maxHeartbeats 4000000 in
theorem zM_32 : zOKa 32 zc_32 := z_auto (cuts := []) (rets := [(24, 1)]) (fuel := 1000) rfl rfl (by decide) (xrt_ok (xR_c (Or.inl ⟨rfl, em32_24, rfl⟩) (xR_n))) (fun _ _ H _ hd => zTo_32 H hd) (by decide +kernel)
/-! CapitalCase$Press.lot:(III)I -/
noncomputable def zTr_33 : Nat → Option aF := bn 12 (bn 6 (bn 1 (bl 0 (a_iload 1 1)) (bn 3 (bl 1 (a_const 121 3)) (bl 3 (a_inv zG0 zprot (false, false) zc_34 (zbd 34) (1, 0, 0) 2 6)))) (bn 10 (bn 7 (bl 6 (a_iload 2 7)) (bl 7 (a_inv zG0 zprot (false, false) zc_34 (zbd 34) (1, 0, 0) 2 10))) (bn 11 (bl 10 (a_const 1 11)) (bl 11 (a_bin fushr 12))))) (bn 18 (bn 14 (bn 13 (bl 12 (a_istore 3 13)) (bl 13 (a_iload 0 14))) (bn 17 (bl 14 (a_if 5 23 17)) (bl 17 (a_iload 3 18)))) (bn 20 (bn 19 (bl 18 (a_iload 0 19)) (bl 19 (a_div frem 20))) (bn 23 (bl 20 (a_goto 24)) (bl 23 (a_const 0 24)))))
set_option maxRecDepth 100000 in
set_option maxHeartbeats 4000000 in
theorem zTo_33 {pre : zPre} {post : zPost} (H : zTieC pre post) {d : Nat × Nat × Nat} (hd : zLe (1, 0, 0) d) : aTr zG0 zT0 zInv (false, false) PZ zbd pre post d prog_6_method_8_code "CapitalCase$Press" zTr_33 := (xB_n (xB_n (xB_n (xB_l ⟨_, zs_iload_n em32_0, as_iload⟩) (xB_n (xB_l ⟨_, zs_bipush (v := 121) em32_1 (by decide +kernel), as_const (by decide +kernel)⟩) (xB_l ⟨_, zs_invS em32_3 zl_34 wd_1039 wd_1040 ((congrFun xo_5 101).trans rfl) xm_33, ag_inv H zh_34 hd (by decide)⟩))) (xB_n (xB_n (xB_l ⟨_, zs_iload_n em32_6, as_iload⟩) (xB_l ⟨_, zs_invS em32_7 zl_34 wd_1039 wd_1040 ((congrFun xo_5 101).trans rfl) xm_33, ag_inv H zh_34 hd (by decide)⟩)) (xB_n (xB_l ⟨_, zs_iconst (v := 1) em32_10 (by decide +kernel), as_const (by decide +kernel)⟩) (xB_l ⟨_, zs_iushr em32_11, as_bin fushr_ok⟩)))) (xB_n (xB_n (xB_n (xB_l ⟨_, zs_istore_n em32_12, as_istore⟩) (xB_l ⟨_, zs_iload_n em32_13, as_iload⟩)) (xB_n (xB_l ⟨_, zs_ifle em32_14 (t := 23) (by decide), as_if⟩) (xB_l ⟨_, zs_iload_n em32_17, as_iload⟩))) (xB_n (xB_n (xB_l ⟨_, zs_iload_n em32_18, as_iload⟩) (xB_l ⟨_, zs_irem em32_19, as_div frem_ok⟩)) (xB_n (xB_l ⟨_, zs_goto em32_20 (t := 24) (by decide), as_goto⟩) (xB_l ⟨_, zs_iconst (v := 0) em32_23 (by decide +kernel), as_const (by decide +kernel)⟩)))))
set_option maxRecDepth 100000 in
set_option maxHeartbeats 4000000 in
theorem zM_33 : zOKa 33 zc_33 := z_auto (cuts := []) (rets := [(24, 1)]) (fuel := 1000) rfl rfl (by decide) (xrt_ok (xR_c (Or.inl ⟨rfl, em32_24, rfl⟩) (xR_n))) (fun _ _ H _ hd => zTo_33 H hd) (by decide +kernel)
theorem em33_0 : decode prog_6_method_9_code 0 = .ok (.iload_n 0, 1) := by decide +kernel
theorem em33_1 : decode prog_6_method_9_code 1 = .ok (.iload_n 1, 1) := by decide +kernel
theorem em33_2 : decode prog_6_method_9_code 2 = .ok (.ixor, 1) := by decide +kernel
theorem em33_3 : decode prog_6_method_9_code 3 = .ok (.ldc 104, 2) := by decide +kernel
theorem em33_5 : decode prog_6_method_9_code 5 = .ok (.imul, 1) := by decide +kernel
theorem em33_6 : decode prog_6_method_9_code 6 = .ok (.sipush 12345, 3) := by decide +kernel
theorem em33_9 : decode prog_6_method_9_code 9 = .ok (.iadd, 1) := by decide +kernel
theorem em33_10 : decode prog_6_method_9_code 10 = .ok (.istore_n 2, 1) := by decide +kernel
theorem em33_11 : decode prog_6_method_9_code 11 = .ok (.iload_n 2, 1) := by decide +kernel
theorem em33_12 : decode prog_6_method_9_code 12 = .ok (.iload_n 2, 1) := by decide +kernel
theorem em33_13 : decode prog_6_method_9_code 13 = .ok (.bipush 15, 2) := by decide +kernel
theorem em33_15 : decode prog_6_method_9_code 15 = .ok (.iushr, 1) := by decide +kernel
theorem em33_16 : decode prog_6_method_9_code 16 = .ok (.ixor, 1) := by decide +kernel
theorem em33_17 : decode prog_6_method_9_code 17 = .ok (.ireturn, 1) := by decide +kernel
/-! CapitalCase$Press.mix:(II)I -/
noncomputable def zTr_34 : Nat → Option aF := bn 9 (bn 3 (bn 1 (bl 0 (a_iload 0 1)) (bn 2 (bl 1 (a_iload 1 2)) (bl 2 (a_bin fany 3)))) (bn 5 (bl 3 (a_const 1103515245 5)) (bn 6 (bl 5 (a_bin fmul 6)) (bl 6 (a_const 12345 9))))) (bn 12 (bn 10 (bl 9 (a_bin fadd 10)) (bn 11 (bl 10 (a_istore 2 11)) (bl 11 (a_iload 2 12)))) (bn 15 (bn 13 (bl 12 (a_iload 2 13)) (bl 13 (a_const 15 15))) (bn 16 (bl 15 (a_bin fushr 16)) (bl 16 (a_bin fany 17)))))
set_option maxRecDepth 100000 in
set_option maxHeartbeats 4000000 in
theorem zTo_34 {pre : zPre} {post : zPost} (H : zTieC pre post) {d : Nat × Nat × Nat} (hd : zLe (0, 0, 0) d) : aTr zG0 zT0 zInv (false, false) PZ zbd pre post d prog_6_method_9_code "CapitalCase$Press" zTr_34 := (xB_n (xB_n (xB_n (xB_l ⟨_, zs_iload_n em33_0, as_iload⟩) (xB_n (xB_l ⟨_, zs_iload_n em33_1, as_iload⟩) (xB_l ⟨_, zs_ixor em33_2, as_bin fany_ok⟩))) (xB_n (xB_l ⟨_, zs_ldc (v := 1103515245) em33_3 wd_1042 ((congrFun xo_5 104).trans (by decide +kernel)), as_const (by decide +kernel)⟩) (xB_n (xB_l ⟨_, zs_imul em33_5, as_bin fmul_ok⟩) (xB_l ⟨_, zs_sipush (v := 12345) em33_6 (by decide +kernel), as_const (by decide +kernel)⟩)))) (xB_n (xB_n (xB_l ⟨_, zs_iadd em33_9, as_bin fadd_ok⟩) (xB_n (xB_l ⟨_, zs_istore_n em33_10, as_istore⟩) (xB_l ⟨_, zs_iload_n em33_11, as_iload⟩))) (xB_n (xB_n (xB_l ⟨_, zs_iload_n em33_12, as_iload⟩) (xB_l ⟨_, zs_bipush (v := 15) em33_13 (by decide +kernel), as_const (by decide +kernel)⟩)) (xB_n (xB_l ⟨_, zs_iushr em33_15, as_bin fushr_ok⟩) (xB_l ⟨_, zs_ixor em33_16, as_bin fany_ok⟩)))))
set_option maxRecDepth 100000 in
set_option maxHeartbeats 4000000 in
theorem zM_34 : zOKa 34 zc_34 := z_auto (cuts := []) (rets := [(17, 1)]) (fuel := 1000) rfl rfl (by decide) (xrt_ok (xR_c (Or.inl ⟨rfl, em33_17, rfl⟩) (xR_n))) (fun _ _ H _ hd => zTo_34 H hd) (by decide +kernel)
theorem em34_0 : decode prog_6_method_3_code 0 = .ok (.iconst 0, 1) := by decide +kernel
theorem em34_1 : decode prog_6_method_3_code 1 = .ok (.istore_n 2, 1) := by decide +kernel
theorem em34_2 : decode prog_6_method_3_code 2 = .ok (.iconst 0, 1) := by decide +kernel
theorem em34_3 : decode prog_6_method_3_code 3 = .ok (.istore_n 3, 1) := by decide +kernel
theorem em34_4 : decode prog_6_method_3_code 4 = .ok (.iload_n 3, 1) := by decide +kernel
theorem em34_5 : decode prog_6_method_3_code 5 = .ok (.aload_n 0, 1) := by decide +kernel
theorem em34_6 : decode prog_6_method_3_code 6 = .ok (.getfield 9, 3) := by decide +kernel
theorem em34_9 : decode prog_6_method_3_code 9 = .ok (.getfield 33, 3) := by decide +kernel
theorem em34_12 : decode prog_6_method_3_code 12 = .ok (.if_icmp .ge 42, 3) := by decide +kernel
theorem em34_15 : decode prog_6_method_3_code 15 = .ok (.aload_n 1, 1) := by decide +kernel
theorem em34_16 : decode prog_6_method_3_code 16 = .ok (.getfield 38, 3) := by decide +kernel
theorem em34_19 : decode prog_6_method_3_code 19 = .ok (.aload_n 1, 1) := by decide +kernel
theorem em34_20 : decode prog_6_method_3_code 20 = .ok (.getfield 41, 3) := by decide +kernel
theorem em34_23 : decode prog_6_method_3_code 23 = .ok (.iconst (-1), 1) := by decide +kernel
theorem em34_24 : decode prog_6_method_3_code 24 = .ok (.ixor, 1) := by decide +kernel
theorem em34_25 : decode prog_6_method_3_code 25 = .ok (.iand, 1) := by decide +kernel
theorem em34_26 : decode prog_6_method_3_code 26 = .ok (.iconst 1, 1) := by decide +kernel
theorem em34_27 : decode prog_6_method_3_code 27 = .ok (.iload_n 3, 1) := by decide +kernel
theorem em34_28 : decode prog_6_method_3_code 28 = .ok (.ishl, 1) := by decide +kernel
theorem em34_29 : decode prog_6_method_3_code 29 = .ok (.iand, 1) := by decide +kernel
theorem em34_30 : decode prog_6_method_3_code 30 = .ok (.ifCond .eq 18, 3) := by decide +kernel
theorem em34_33 : decode prog_6_method_3_code 33 = .ok (.iload_n 2, 1) := by decide +kernel
theorem em34_34 : decode prog_6_method_3_code 34 = .ok (.aload_n 0, 1) := by decide +kernel
theorem em34_35 : decode prog_6_method_3_code 35 = .ok (.getfield 15, 3) := by decide +kernel
theorem em34_38 : decode prog_6_method_3_code 38 = .ok (.iload_n 3, 1) := by decide +kernel
theorem em34_39 : decode prog_6_method_3_code 39 = .ok (.aload_n 1, 1) := by decide +kernel
theorem em34_40 : decode prog_6_method_3_code 40 = .ok (.getfield 27, 3) := by decide +kernel
theorem em34_43 : decode prog_6_method_3_code 43 = .ok (.invokevirtual 44, 3) := by decide +kernel
theorem em34_46 : decode prog_6_method_3_code 46 = .ok (.iadd, 1) := by decide +kernel
theorem em34_47 : decode prog_6_method_3_code 47 = .ok (.istore_n 2, 1) := by decide +kernel
theorem em34_48 : decode prog_6_method_3_code 48 = .ok (.iinc 3 1, 3) := by decide +kernel
theorem em34_51 : decode prog_6_method_3_code 51 = .ok (.goto (-47), 3) := by decide +kernel
theorem em34_54 : decode prog_6_method_3_code 54 = .ok (.iload_n 2, 1) := by decide +kernel
theorem em34_55 : decode prog_6_method_3_code 55 = .ok (.ireturn, 1) := by decide +kernel
/-! CapitalCase$Press.owed:(LCapitalCase$Town;)I -/
noncomputable def zTr_35 : Nat → Option aF := bn 26 (bn 12 (bn 4 (bn 2 (bn 1 (bl 0 (a_const 0 1)) (bl 1 (a_istore 2 2))) (bn 3 (bl 2 (a_const 0 3)) (bl 3 (a_istore 3 4)))) (bn 6 (bn 5 (bl 4 (a_iload 3 5)) (bl 5 (a_aload 0 6))) (bn 9 (bl 6 (a_getf zG0 zT0 4 0 9)) (bl 9 (a_getf zG0 zT0 6 1 12))))) (bn 20 (bn 16 (bn 15 (bl 12 (a_icmp 3 54 15)) (bl 15 (a_aload 1 16))) (bn 19 (bl 16 (a_getf zG0 zT0 8 5 19)) (bl 19 (a_aload 1 20)))) (bn 24 (bn 23 (bl 20 (a_getf zG0 zT0 8 6 23)) (bl 23 (a_const (-1) 24))) (bn 25 (bl 24 (a_bin fany 25)) (bl 25 (a_bin fand 26)))))) (bn 38 (bn 30 (bn 28 (bn 27 (bl 26 (a_const 1 27)) (bl 27 (a_iload 3 28))) (bn 29 (bl 28 (a_bin fshl 29)) (bl 29 (a_bin fand 30)))) (bn 34 (bn 33 (bl 30 (a_if 0 48 33)) (bl 33 (a_iload 2 34))) (bn 35 (bl 34 (a_aload 0 35)) (bl 35 (a_getf zG0 zT0 4 1 38))))) (bn 46 (bn 40 (bn 39 (bl 38 (a_iload 3 39)) (bl 39 (a_aload 1 40))) (bn 43 (bl 40 (a_getf zG0 zT0 8 7 43)) (bl 43 (a_invV zG0 zprot (true, false) zc_6 (zbd 6) (7, 0, 0) 1 3 46)))) (bn 48 (bn 47 (bl 46 (a_bin fadd 47)) (bl 47 (a_istore 2 48))) (bn 51 (bl 48 (a_iinc 3 1 51)) (bn 54 (bl 51 (a_goto 4)) (bl 54 (a_iload 2 55)))))))
set_option maxRecDepth 100000 in
set_option maxHeartbeats 4000000 in
theorem zTo_35 {pre : zPre} {post : zPost} (H : zTieC pre post) {d : Nat × Nat × Nat} (hd : zLe (7, 0, 0) d) : aTr zG0 zT0 zInv (true, false) PZ zbd pre post d prog_6_method_3_code "CapitalCase$Press" zTr_35 := (xB_n (xB_n (xB_n (xB_n (xB_n (xB_l ⟨_, zs_iconst (v := 0) em34_0 (by decide +kernel), as_const (by decide +kernel)⟩) (xB_l ⟨_, zs_istore_n em34_1, as_istore⟩)) (xB_n (xB_l ⟨_, zs_iconst (v := 0) em34_2 (by decide +kernel), as_const (by decide +kernel)⟩) (xB_l ⟨_, zs_istore_n em34_3, as_istore⟩))) (xB_n (xB_n (xB_l ⟨_, zs_iload_n em34_4, as_iload⟩) (xB_l ⟨_, zs_aload_n em34_5, as_aload⟩)) (xB_n (xB_l ⟨_, zs_getf (T := TX4) (M := 2) (ci := 4) (j := 0) em34_6 rfl inX4 (by decide) wd_438 ((congrFun xo_5 9).trans rfl), as_getf zTie⟩) (xB_l ⟨_, zs_getf (T := TX6) (M := 15) (ci := 6) (j := 1) em34_9 rfl inX6 (by decide) wd_171 ((congrFun xo_5 33).trans rfl), as_getf zTie⟩)))) (xB_n (xB_n (xB_n (xB_l ⟨_, zs_icmpge em34_12 (t := 54) (by decide), as_icmp⟩) (xB_l ⟨_, zs_aload_n em34_15, as_aload⟩)) (xB_n (xB_l ⟨_, zs_getf (T := TX8) (M := 10) (ci := 8) (j := 5) em34_16 rfl inX8 (by decide) wd_339 ((congrFun xo_5 38).trans rfl), as_getf zTie⟩) (xB_l ⟨_, zs_aload_n em34_19, as_aload⟩))) (xB_n (xB_n (xB_l ⟨_, zs_getf (T := TX8) (M := 10) (ci := 8) (j := 6) em34_20 rfl inX8 (by decide) wd_342 ((congrFun xo_5 41).trans rfl), as_getf zTie⟩) (xB_l ⟨_, zs_iconst (v := (-1)) em34_23 (by decide +kernel), as_const (by decide +kernel)⟩)) (xB_n (xB_l ⟨_, zs_ixor em34_24, as_bin fany_ok⟩) (xB_l ⟨_, zs_iand em34_25, as_bin fand_ok⟩))))) (xB_n (xB_n (xB_n (xB_n (xB_l ⟨_, zs_iconst (v := 1) em34_26 (by decide +kernel), as_const (by decide +kernel)⟩) (xB_l ⟨_, zs_iload_n em34_27, as_iload⟩)) (xB_n (xB_l ⟨_, zs_ishl em34_28, as_bin fshl_ok⟩) (xB_l ⟨_, zs_iand em34_29, as_bin fand_ok⟩))) (xB_n (xB_n (xB_l ⟨_, zs_ifeq em34_30 (t := 48) (by decide), as_if⟩) (xB_l ⟨_, zs_iload_n em34_33, as_iload⟩)) (xB_n (xB_l ⟨_, zs_aload_n em34_34, as_aload⟩) (xB_l ⟨_, zs_getf (T := TX4) (M := 2) (ci := 4) (j := 1) em34_35 rfl inX4 (by decide) wd_439 ((congrFun xo_5 15).trans rfl), as_getf zTie⟩)))) (xB_n (xB_n (xB_n (xB_l ⟨_, zs_iload_n em34_38, as_iload⟩) (xB_l ⟨_, zs_aload_n em34_39, as_aload⟩)) (xB_n (xB_l ⟨_, zs_getf (T := TX8) (M := 10) (ci := 8) (j := 7) em34_40 rfl inX8 (by decide) wd_344 ((congrFun xo_5 27).trans rfl), as_getf zTie⟩) (xB_l ⟨_, zs_invV (T := TX1) em34_43 zl_6 rfl wd_1017 wd_903 wd_904 ((congrFun xo_5 44).trans rfl) xm_6, ag_invV H zh_6 hd (by decide)⟩))) (xB_n (xB_n (xB_l ⟨_, zs_iadd em34_46, as_bin fadd_ok⟩) (xB_l ⟨_, zs_istore_n em34_47, as_istore⟩)) (xB_n (xB_l ⟨_, zs_iinc (k := 1) em34_48 (by decide +kernel), as_iinc (by decide +kernel)⟩) (xB_n (xB_l ⟨_, zs_goto em34_51 (t := 4) (by decide), as_goto⟩) (xB_l ⟨_, zs_iload_n em34_54, as_iload⟩)))))))
set_option maxRecDepth 100000 in
set_option maxHeartbeats 4000000 in
theorem zM_35 : zOKa 35 zc_35 := z_auto (cuts := [(4, ([(0, 0), (0, 408), (0, 7), ((-2147483648), 2147483647), (0, 7)], [], [some (.inr (.inl (0, 51))), some (.inr (.inl (1, 1000))), some (.inl (3, 0)), some (.inl (4, 0))], [], [(4, 1, 0), (6, 2, 0)], (0, 0)), [(0, 2), (0, 3)], 7, [0, 0, 0, 0, (-1)])]) (rets := [(55, 1)]) (fuel := 1000) rfl rfl (by decide) (xrt_ok (xR_c (Or.inl ⟨rfl, em34_55, rfl⟩) (xR_n))) (fun _ _ H _ hd => zTo_35 H hd) (by decide +kernel)
theorem em35_0 : decode prog_6_method_2_code 0 = .ok (.iconst 0, 1) := by decide +kernel
theorem em35_1 : decode prog_6_method_2_code 1 = .ok (.istore 4, 2) := by decide +kernel
theorem em35_3 : decode prog_6_method_2_code 3 = .ok (.iload 4, 2) := by decide +kernel
theorem em35_5 : decode prog_6_method_2_code 5 = .ok (.iload_n 2, 1) := by decide +kernel
theorem em35_6 : decode prog_6_method_2_code 6 = .ok (.if_icmp .ge 30, 3) := by decide +kernel
theorem em35_9 : decode prog_6_method_2_code 9 = .ok (.aload_n 0, 1) := by decide +kernel
theorem em35_10 : decode prog_6_method_2_code 10 = .ok (.aload_n 1, 1) := by decide +kernel
theorem em35_11 : decode prog_6_method_2_code 11 = .ok (.invokevirtual 19, 3) := by decide +kernel
theorem em35_14 : decode prog_6_method_2_code 14 = .ok (.aload_n 0, 1) := by decide +kernel
theorem em35_15 : decode prog_6_method_2_code 15 = .ok (.aload_n 1, 1) := by decide +kernel
theorem em35_16 : decode prog_6_method_2_code 16 = .ok (.iload_n 3, 1) := by decide +kernel
theorem em35_17 : decode prog_6_method_2_code 17 = .ok (.invokevirtual 23, 3) := by decide +kernel
theorem em35_20 : decode prog_6_method_2_code 20 = .ok (.aload_n 1, 1) := by decide +kernel
theorem em35_21 : decode prog_6_method_2_code 21 = .ok (.dup, 1) := by decide +kernel
theorem em35_22 : decode prog_6_method_2_code 22 = .ok (.getfield 27, 3) := by decide +kernel
theorem em35_25 : decode prog_6_method_2_code 25 = .ok (.iconst 1, 1) := by decide +kernel
theorem em35_26 : decode prog_6_method_2_code 26 = .ok (.iadd, 1) := by decide +kernel
theorem em35_27 : decode prog_6_method_2_code 27 = .ok (.putfield 27, 3) := by decide +kernel
theorem em35_30 : decode prog_6_method_2_code 30 = .ok (.iinc 4 1, 3) := by decide +kernel
theorem em35_33 : decode prog_6_method_2_code 33 = .ok (.goto (-30), 3) := by decide +kernel
theorem em35_36 : decode prog_6_method_2_code 36 = .ok (.return_, 1) := by decide +kernel
/-! CapitalCase$Press.passDays:(LCapitalCase$Town;II)V -/
noncomputable def zTr_36 : Nat → Option aF := bn 16 (bn 9 (bn 3 (bn 1 (bl 0 (a_const 0 1)) (bl 1 (a_istore 4 3))) (bn 5 (bl 3 (a_iload 4 5)) (bn 6 (bl 5 (a_iload 2 6)) (bl 6 (a_icmp 3 36 9))))) (bn 11 (bn 10 (bl 9 (a_aload 0 10)) (bl 10 (a_aload 1 11))) (bn 14 (bl 11 (a_invV zG0 zprot (true, false) zc_40 (zbd 40) (9, 0, 0) 4 2 14)) (bn 15 (bl 14 (a_aload 0 15)) (bl 15 (a_aload 1 16)))))) (bn 25 (bn 20 (bn 17 (bl 16 (a_iload 3 17)) (bl 17 (a_invV zG0 zprot (true, false) zc_37 (zbd 37) (9, 0, 0) 4 3 20))) (bn 21 (bl 20 (a_aload 1 21)) (bn 22 (bl 21 (a_dup 22)) (bl 22 (a_getf zG0 zT0 8 7 25))))) (bn 27 (bn 26 (bl 25 (a_const 1 26)) (bl 26 (a_bin fadd 27))) (bn 30 (bl 27 (a_puti zG0 zT0 zprot 8 7 0 30)) (bn 33 (bl 30 (a_iinc 4 1 33)) (bl 33 (a_goto 3))))))
set_option maxRecDepth 100000 in
set_option maxHeartbeats 4000000 in
theorem zTo_36 {pre : zPre} {post : zPost} (H : zTieC pre post) {d : Nat × Nat × Nat} (hd : zLe (9, 0, 0) d) : aTr zG0 zT0 zInv (true, false) PZ zbd pre post d prog_6_method_2_code "CapitalCase$Press" zTr_36 := (xB_n (xB_n (xB_n (xB_n (xB_l ⟨_, zs_iconst (v := 0) em35_0 (by decide +kernel), as_const (by decide +kernel)⟩) (xB_l ⟨_, zs_istore em35_1, as_istore⟩)) (xB_n (xB_l ⟨_, zs_iload em35_3, as_iload⟩) (xB_n (xB_l ⟨_, zs_iload_n em35_5, as_iload⟩) (xB_l ⟨_, zs_icmpge em35_6 (t := 36) (by decide), as_icmp⟩)))) (xB_n (xB_n (xB_l ⟨_, zs_aload_n em35_9, as_aload⟩) (xB_l ⟨_, zs_aload_n em35_10, as_aload⟩)) (xB_n (xB_l ⟨_, zs_invV (T := TX4) em35_11 zl_40 rfl wd_1009 wd_1010 wd_1011 ((congrFun xo_5 19).trans rfl) xm_39, ag_invV H zh_40 hd (by decide)⟩) (xB_n (xB_l ⟨_, zs_aload_n em35_14, as_aload⟩) (xB_l ⟨_, zs_aload_n em35_15, as_aload⟩))))) (xB_n (xB_n (xB_n (xB_l ⟨_, zs_iload_n em35_16, as_iload⟩) (xB_l ⟨_, zs_invV (T := TX4) em35_17 zl_37 rfl wd_1028 wd_1030 wd_31 ((congrFun xo_5 23).trans rfl) xm_36, ag_invV H zh_37 hd (by decide)⟩)) (xB_n (xB_l ⟨_, zs_aload_n em35_20, as_aload⟩) (xB_n (xB_l ⟨_, zs_dup em35_21, as_dup⟩) (xB_l ⟨_, zs_getf (T := TX8) (M := 10) (ci := 8) (j := 7) em35_22 rfl inX8 (by decide) wd_344 ((congrFun xo_5 27).trans rfl), as_getf zTie⟩)))) (xB_n (xB_n (xB_l ⟨_, zs_iconst (v := 1) em35_25 (by decide +kernel), as_const (by decide +kernel)⟩) (xB_l ⟨_, zs_iadd em35_26, as_bin fadd_ok⟩)) (xB_n (xB_l ⟨_, zs_puti zInj0 (T := TX8) (M := 10) (ty := tyX8) (ci := 8) (j := 7) (kd := 0) em35_27 rfl inX8 tyX8_ok nmX8 (by decide) wd_344 (Or.inl ⟨rfl, rfl⟩) rfl ((congrFun xo_5 27).trans rfl), ag_puti0⟩) (xB_n (xB_l ⟨_, zs_iinc (k := 1) em35_30 (by decide +kernel), as_iinc (by decide +kernel)⟩) (xB_l ⟨_, zs_goto em35_33 (t := 3) (by decide), as_goto⟩))))))
set_option maxRecDepth 100000 in
set_option maxHeartbeats 4000000 in
theorem zM_36 : zOKa 36 zc_36 := z_auto (cuts := [(3, ([(0, 0), (0, 60), ((-2147483648), 2147483647), (0, 408), (0, 5), (0, 7), (0, 60)], [], [some (.inr (.inl (0, 51))), some (.inr (.inl (1, 1000))), some (.inl (1, 0)), some (.inl (2, 0)), some (.inl (6, 0))], [], [(4, 3, 0), (5, 4, 0), (6, 5, 0)], (0, 0)), [(0, 4)], 60, [0, 0, 0, 0, 0, 0, (-1)])]) (rets := [(36, 3)]) (fuel := 1000) rfl rfl (by decide) (xrt_ok (xR_c (Or.inr (Or.inr (Or.inl ⟨rfl, em35_36, rfl⟩))) (xR_n))) (fun _ _ H _ hd => zTo_36 H hd) (by decide +kernel)
theorem em36_0 : decode prog_6_method_7_code 0 = .ok (.aload_n 0, 1) := by decide +kernel
theorem em36_1 : decode prog_6_method_7_code 1 = .ok (.iload_n 2, 1) := by decide +kernel
theorem em36_2 : decode prog_6_method_7_code 2 = .ok (.aload_n 1, 1) := by decide +kernel
theorem em36_3 : decode prog_6_method_7_code 3 = .ok (.getfield 27, 3) := by decide +kernel
theorem em36_6 : decode prog_6_method_7_code 6 = .ok (.invokevirtual 94, 3) := by decide +kernel
theorem em36_9 : decode prog_6_method_7_code 9 = .ok (.ifCond .ne 4, 3) := by decide +kernel
theorem em36_12 : decode prog_6_method_7_code 12 = .ok (.return_, 1) := by decide +kernel
theorem em36_13 : decode prog_6_method_7_code 13 = .ok (.bipush 8, 2) := by decide +kernel
theorem em36_15 : decode prog_6_method_7_code 15 = .ok (.iload_n 2, 1) := by decide +kernel
theorem em36_16 : decode prog_6_method_7_code 16 = .ok (.iconst 4, 1) := by decide +kernel
theorem em36_17 : decode prog_6_method_7_code 17 = .ok (.aload_n 1, 1) := by decide +kernel
theorem em36_18 : decode prog_6_method_7_code 18 = .ok (.getfield 27, 3) := by decide +kernel
theorem em36_21 : decode prog_6_method_7_code 21 = .ok (.imul, 1) := by decide +kernel
theorem em36_22 : decode prog_6_method_7_code 22 = .ok (.iconst 1, 1) := by decide +kernel
theorem em36_23 : decode prog_6_method_7_code 23 = .ok (.iadd, 1) := by decide +kernel
theorem em36_24 : decode prog_6_method_7_code 24 = .ok (.invokestatic 87, 3) := by decide +kernel
theorem em36_27 : decode prog_6_method_7_code 27 = .ok (.istore_n 3, 1) := by decide +kernel
theorem em36_28 : decode prog_6_method_7_code 28 = .ok (.iconst 0, 1) := by decide +kernel
theorem em36_29 : decode prog_6_method_7_code 29 = .ok (.istore 4, 2) := by decide +kernel
theorem em36_31 : decode prog_6_method_7_code 31 = .ok (.iconst 1, 1) := by decide +kernel
theorem em36_32 : decode prog_6_method_7_code 32 = .ok (.istore 5, 2) := by decide +kernel
theorem em36_34 : decode prog_6_method_7_code 34 = .ok (.iload 5, 2) := by decide +kernel
theorem em36_36 : decode prog_6_method_7_code 36 = .ok (.aload_n 0, 1) := by decide +kernel
theorem em36_37 : decode prog_6_method_7_code 37 = .ok (.getfield 9, 3) := by decide +kernel
theorem em36_40 : decode prog_6_method_7_code 40 = .ok (.getfield 57, 3) := by decide +kernel
theorem em36_43 : decode prog_6_method_7_code 43 = .ok (.if_icmp .ge 40, 3) := by decide +kernel
theorem em36_46 : decode prog_6_method_7_code 46 = .ok (.aload_n 1, 1) := by decide +kernel
theorem em36_47 : decode prog_6_method_7_code 47 = .ok (.getfield 98, 3) := by decide +kernel
theorem em36_50 : decode prog_6_method_7_code 50 = .ok (.iload 5, 2) := by decide +kernel
theorem em36_52 : decode prog_6_method_7_code 52 = .ok (.bipush 8, 2) := by decide +kernel
theorem em36_54 : decode prog_6_method_7_code 54 = .ok (.imul, 1) := by decide +kernel
theorem em36_55 : decode prog_6_method_7_code 55 = .ok (.iload_n 3, 1) := by decide +kernel
theorem em36_56 : decode prog_6_method_7_code 56 = .ok (.iadd, 1) := by decide +kernel
theorem em36_57 : decode prog_6_method_7_code 57 = .ok (.iaload, 1) := by decide +kernel
theorem em36_58 : decode prog_6_method_7_code 58 = .ok (.aload_n 1, 1) := by decide +kernel
theorem em36_59 : decode prog_6_method_7_code 59 = .ok (.getfield 98, 3) := by decide +kernel
theorem em36_62 : decode prog_6_method_7_code 62 = .ok (.iload 4, 2) := by decide +kernel
theorem em36_64 : decode prog_6_method_7_code 64 = .ok (.bipush 8, 2) := by decide +kernel
theorem em36_66 : decode prog_6_method_7_code 66 = .ok (.imul, 1) := by decide +kernel
theorem em36_67 : decode prog_6_method_7_code 67 = .ok (.iload_n 3, 1) := by decide +kernel
theorem em36_68 : decode prog_6_method_7_code 68 = .ok (.iadd, 1) := by decide +kernel
theorem em36_69 : decode prog_6_method_7_code 69 = .ok (.iaload, 1) := by decide +kernel
theorem em36_70 : decode prog_6_method_7_code 70 = .ok (.if_icmp .le 7, 3) := by decide +kernel
theorem em36_73 : decode prog_6_method_7_code 73 = .ok (.iload 5, 2) := by decide +kernel
theorem em36_75 : decode prog_6_method_7_code 75 = .ok (.istore 4, 2) := by decide +kernel
theorem em36_77 : decode prog_6_method_7_code 77 = .ok (.iinc 5 1, 3) := by decide +kernel
theorem em36_80 : decode prog_6_method_7_code 80 = .ok (.goto (-46), 3) := by decide +kernel
theorem em36_83 : decode prog_6_method_7_code 83 = .ok (.aload_n 1, 1) := by decide +kernel
theorem em36_84 : decode prog_6_method_7_code 84 = .ok (.iload 4, 2) := by decide +kernel
theorem em36_86 : decode prog_6_method_7_code 86 = .ok (.bipush 8, 2) := by decide +kernel
theorem em36_88 : decode prog_6_method_7_code 88 = .ok (.imul, 1) := by decide +kernel
theorem em36_89 : decode prog_6_method_7_code 89 = .ok (.iload_n 3, 1) := by decide +kernel
theorem em36_90 : decode prog_6_method_7_code 90 = .ok (.iadd, 1) := by decide +kernel
theorem em36_91 : decode prog_6_method_7_code 91 = .ok (.invokevirtual 83, 3) := by decide +kernel
theorem em36_94 : decode prog_6_method_7_code 94 = .ok (.pop, 1) := by decide +kernel
theorem em36_95 : decode prog_6_method_7_code 95 = .ok (.return_, 1) := by decide +kernel
/-! CapitalCase$Press.steal:(LCapitalCase$Town;I)V -/
noncomputable def zTr_37 : Nat → Option aF := bn 50 (bn 23 (bn 13 (bn 3 (bn 1 (bl 0 (a_aload 0 1)) (bn 2 (bl 1 (a_iload 2 2)) (bl 2 (a_aload 1 3)))) (bn 6 (bl 3 (a_getf zG0 zT0 8 7 6)) (bn 9 (bl 6 (a_invV zG0 zprot (false, false) zc_38 (zbd 38) (3, 0, 0) 4 3 9)) (bl 9 (a_if 1 13 12))))) (bn 17 (bn 15 (bl 13 (a_const 8 15)) (bn 16 (bl 15 (a_iload 2 16)) (bl 16 (a_const 4 17)))) (bn 21 (bn 18 (bl 17 (a_aload 1 18)) (bl 18 (a_getf zG0 zT0 8 7 21))) (bn 22 (bl 21 (a_bin fmul 22)) (bl 22 (a_const 1 23)))))) (bn 34 (bn 28 (bn 24 (bl 23 (a_bin fadd 24)) (bn 27 (bl 24 (a_inv zG0 zprot (false, false) zc_33 (zbd 33) (3, 0, 0) 3 27)) (bl 27 (a_istore 3 28)))) (bn 31 (bn 29 (bl 28 (a_const 0 29)) (bl 29 (a_istore 4 31))) (bn 32 (bl 31 (a_const 1 32)) (bl 32 (a_istore 5 34))))) (bn 40 (bn 36 (bl 34 (a_iload 5 36)) (bn 37 (bl 36 (a_aload 0 37)) (bl 37 (a_getf zG0 zT0 4 0 40)))) (bn 46 (bn 43 (bl 40 (a_getf zG0 zT0 6 0 43)) (bl 43 (a_icmp 3 83 46))) (bn 47 (bl 46 (a_aload 1 47)) (bl 47 (a_getf zG0 zT0 8 0 50))))))) (bn 69 (bn 58 (bn 55 (bn 52 (bl 50 (a_iload 5 52)) (bn 54 (bl 52 (a_const 8 54)) (bl 54 (a_bin fmul 55)))) (bn 56 (bl 55 (a_iload 3 56)) (bn 57 (bl 56 (a_bin fadd 57)) (bl 57 (a_ald zG0 zT0 (false, false) ts0 58))))) (bn 64 (bn 59 (bl 58 (a_aload 1 59)) (bn 62 (bl 59 (a_getf zG0 zT0 8 0 62)) (bl 62 (a_iload 4 64)))) (bn 67 (bn 66 (bl 64 (a_const 8 66)) (bl 66 (a_bin fmul 67))) (bn 68 (bl 67 (a_iload 3 68)) (bl 68 (a_bin fadd 69)))))) (bn 84 (bn 75 (bn 70 (bl 69 (a_ald zG0 zT0 (false, false) ts0 70)) (bn 73 (bl 70 (a_icmp 5 77 73)) (bl 73 (a_iload 5 75)))) (bn 80 (bn 77 (bl 75 (a_istore 4 77)) (bl 77 (a_iinc 5 1 80))) (bn 83 (bl 80 (a_goto 34)) (bl 83 (a_aload 1 84))))) (bn 89 (bn 86 (bl 84 (a_iload 4 86)) (bn 88 (bl 86 (a_const 8 88)) (bl 88 (a_bin fmul 89)))) (bn 91 (bn 90 (bl 89 (a_iload 3 90)) (bl 90 (a_bin fadd 91))) (bn 94 (bl 91 (a_invV zG0 zprot (false, false) zc_60 (zbd 60) (3, 0, 0) 8 2 94)) (bl 94 (a_pop 95)))))))
set_option maxRecDepth 100000 in
set_option maxHeartbeats 4000000 in
theorem zTo_37 {pre : zPre} {post : zPost} (H : zTieC pre post) {d : Nat × Nat × Nat} (hd : zLe (3, 0, 0) d) : aTr zG0 zT0 zInv (false, false) PZ zbd pre post d prog_6_method_7_code "CapitalCase$Press" zTr_37 := (xB_n (xB_n (xB_n (xB_n (xB_n (xB_l ⟨_, zs_aload_n em36_0, as_aload⟩) (xB_n (xB_l ⟨_, zs_iload_n em36_1, as_iload⟩) (xB_l ⟨_, zs_aload_n em36_2, as_aload⟩))) (xB_n (xB_l ⟨_, zs_getf (T := TX8) (M := 10) (ci := 8) (j := 7) em36_3 rfl inX8 (by decide) wd_344 ((congrFun xo_5 27).trans rfl), as_getf zTie⟩) (xB_n (xB_l ⟨_, zs_invV (T := TX4) em36_6 zl_38 rfl wd_1032 wd_1033 wd_1034 ((congrFun xo_5 94).trans rfl) xm_37, ag_invV H zh_38 hd (by decide)⟩) (xB_l ⟨_, zs_ifne em36_9 (t := 13) (by decide), as_if⟩)))) (xB_n (xB_n (xB_l ⟨_, zs_bipush (v := 8) em36_13 (by decide +kernel), as_const (by decide +kernel)⟩) (xB_n (xB_l ⟨_, zs_iload_n em36_15, as_iload⟩) (xB_l ⟨_, zs_iconst (v := 4) em36_16 (by decide +kernel), as_const (by decide +kernel)⟩))) (xB_n (xB_n (xB_l ⟨_, zs_aload_n em36_17, as_aload⟩) (xB_l ⟨_, zs_getf (T := TX8) (M := 10) (ci := 8) (j := 7) em36_18 rfl inX8 (by decide) wd_344 ((congrFun xo_5 27).trans rfl), as_getf zTie⟩)) (xB_n (xB_l ⟨_, zs_imul em36_21, as_bin fmul_ok⟩) (xB_l ⟨_, zs_iconst (v := 1) em36_22 (by decide +kernel), as_const (by decide +kernel)⟩))))) (xB_n (xB_n (xB_n (xB_l ⟨_, zs_iadd em36_23, as_bin fadd_ok⟩) (xB_n (xB_l ⟨_, zs_invS em36_24 zl_33 wd_1036 wd_1037 ((congrFun xo_5 87).trans rfl) xm_32, ag_inv H zh_33 hd (by decide)⟩) (xB_l ⟨_, zs_istore_n em36_27, as_istore⟩))) (xB_n (xB_n (xB_l ⟨_, zs_iconst (v := 0) em36_28 (by decide +kernel), as_const (by decide +kernel)⟩) (xB_l ⟨_, zs_istore em36_29, as_istore⟩)) (xB_n (xB_l ⟨_, zs_iconst (v := 1) em36_31 (by decide +kernel), as_const (by decide +kernel)⟩) (xB_l ⟨_, zs_istore em36_32, as_istore⟩)))) (xB_n (xB_n (xB_l ⟨_, zs_iload em36_34, as_iload⟩) (xB_n (xB_l ⟨_, zs_aload_n em36_36, as_aload⟩) (xB_l ⟨_, zs_getf (T := TX4) (M := 2) (ci := 4) (j := 0) em36_37 rfl inX4 (by decide) wd_438 ((congrFun xo_5 9).trans rfl), as_getf zTie⟩))) (xB_n (xB_n (xB_l ⟨_, zs_getf (T := TX6) (M := 15) (ci := 6) (j := 0) em36_40 rfl inX6 (by decide) wd_165 ((congrFun xo_5 57).trans rfl), as_getf zTie⟩) (xB_l ⟨_, zs_icmpge em36_43 (t := 83) (by decide), as_icmp⟩)) (xB_n (xB_l ⟨_, zs_aload_n em36_46, as_aload⟩) (xB_l ⟨_, zs_getf (T := TX8) (M := 10) (ci := 8) (j := 0) em36_47 rfl inX8 (by decide) wd_323 ((congrFun xo_5 98).trans rfl), as_getf zTie⟩)))))) (xB_n (xB_n (xB_n (xB_n (xB_l ⟨_, zs_iload em36_50, as_iload⟩) (xB_n (xB_l ⟨_, zs_bipush (v := 8) em36_52 (by decide +kernel), as_const (by decide +kernel)⟩) (xB_l ⟨_, zs_imul em36_54, as_bin fmul_ok⟩))) (xB_n (xB_l ⟨_, zs_iload_n em36_55, as_iload⟩) (xB_n (xB_l ⟨_, zs_iadd em36_56, as_bin fadd_ok⟩) (xB_l ⟨_, zs_iald em36_57, ag_iald⟩)))) (xB_n (xB_n (xB_l ⟨_, zs_aload_n em36_58, as_aload⟩) (xB_n (xB_l ⟨_, zs_getf (T := TX8) (M := 10) (ci := 8) (j := 0) em36_59 rfl inX8 (by decide) wd_323 ((congrFun xo_5 98).trans rfl), as_getf zTie⟩) (xB_l ⟨_, zs_iload em36_62, as_iload⟩))) (xB_n (xB_n (xB_l ⟨_, zs_bipush (v := 8) em36_64 (by decide +kernel), as_const (by decide +kernel)⟩) (xB_l ⟨_, zs_imul em36_66, as_bin fmul_ok⟩)) (xB_n (xB_l ⟨_, zs_iload_n em36_67, as_iload⟩) (xB_l ⟨_, zs_iadd em36_68, as_bin fadd_ok⟩))))) (xB_n (xB_n (xB_n (xB_l ⟨_, zs_iald em36_69, ag_iald⟩) (xB_n (xB_l ⟨_, zs_icmple em36_70 (t := 77) (by decide), as_icmp⟩) (xB_l ⟨_, zs_iload em36_73, as_iload⟩))) (xB_n (xB_n (xB_l ⟨_, zs_istore em36_75, as_istore⟩) (xB_l ⟨_, zs_iinc (k := 1) em36_77 (by decide +kernel), as_iinc (by decide +kernel)⟩)) (xB_n (xB_l ⟨_, zs_goto em36_80 (t := 34) (by decide), as_goto⟩) (xB_l ⟨_, zs_aload_n em36_83, as_aload⟩)))) (xB_n (xB_n (xB_l ⟨_, zs_iload em36_84, as_iload⟩) (xB_n (xB_l ⟨_, zs_bipush (v := 8) em36_86 (by decide +kernel), as_const (by decide +kernel)⟩) (xB_l ⟨_, zs_imul em36_88, as_bin fmul_ok⟩))) (xB_n (xB_n (xB_l ⟨_, zs_iload_n em36_89, as_iload⟩) (xB_l ⟨_, zs_iadd em36_90, as_bin fadd_ok⟩)) (xB_n (xB_l ⟨_, zs_invV (T := TX8) em36_91 zl_60 rfl wd_1024 wd_1025 wd_1026 ((congrFun xo_5 83).trans rfl) xm_56, ag_invV H zh_60 hd (by decide)⟩) (xB_l ⟨_, zs_pop em36_94, as_pop⟩)))))))
set_option maxRecDepth 100000 in
set_option maxHeartbeats 4000000 in
theorem zM_37 : zOKa 37 zc_37 := z_auto (cuts := [(34, ([(0, 0), ((-2147483648), 2147483647), (0, 5), (0, 7), (0, 4), (1, 5)], [], [some (.inr (.inl (0, 51))), some (.inr (.inl (1, 1000))), some (.inl (1, 0)), some (.inl (3, 0)), some (.inl (4, 0)), some (.inl (5, 0))], [], [(5, 2, 0)], (0, 0)), [(0, 3), (0, 4), (0, 5)], 5, [0, 0, 0, 0, 0, (-1)])]) (rets := [(12, 3), (95, 3)]) (fuel := 1000) rfl rfl (by decide) (xrt_ok (xR_c (Or.inr (Or.inr (Or.inl ⟨rfl, em36_12, rfl⟩))) (xR_c (Or.inr (Or.inr (Or.inl ⟨rfl, em36_95, rfl⟩))) (xR_n)))) (fun _ _ H _ hd => zTo_37 H hd) (by decide +kernel)
theorem em37_0 : decode prog_6_method_6_code 0 = .ok (.bipush 100, 2) := by decide +kernel
theorem em37_2 : decode prog_6_method_6_code 2 = .ok (.iload_n 1, 1) := by decide +kernel
theorem em37_3 : decode prog_6_method_6_code 3 = .ok (.iconst 4, 1) := by decide +kernel
theorem em37_4 : decode prog_6_method_6_code 4 = .ok (.iload_n 2, 1) := by decide +kernel
theorem em37_5 : decode prog_6_method_6_code 5 = .ok (.imul, 1) := by decide +kernel
theorem em37_6 : decode prog_6_method_6_code 6 = .ok (.invokestatic 87, 3) := by decide +kernel
theorem em37_9 : decode prog_6_method_6_code 9 = .ok (.aload_n 0, 1) := by decide +kernel
theorem em37_10 : decode prog_6_method_6_code 10 = .ok (.getfield 9, 3) := by decide +kernel
theorem em37_13 : decode prog_6_method_6_code 13 = .ok (.getfield 91, 3) := by decide +kernel
theorem em37_16 : decode prog_6_method_6_code 16 = .ok (.if_icmp .ge 7, 3) := by decide +kernel
theorem em37_19 : decode prog_6_method_6_code 19 = .ok (.iconst 1, 1) := by decide +kernel
theorem em37_20 : decode prog_6_method_6_code 20 = .ok (.goto 4, 3) := by decide +kernel
theorem em37_23 : decode prog_6_method_6_code 23 = .ok (.iconst 0, 1) := by decide +kernel
theorem em37_24 : decode prog_6_method_6_code 24 = .ok (.ireturn, 1) := by decide +kernel
/-! CapitalCase$Press.thievesCome:(II)Z -/
noncomputable def zTr_38 : Nat → Option aF := bn 9 (bn 4 (bn 2 (bl 0 (a_const 100 2)) (bn 3 (bl 2 (a_iload 1 3)) (bl 3 (a_const 4 4)))) (bn 5 (bl 4 (a_iload 2 5)) (bn 6 (bl 5 (a_bin fmul 6)) (bl 6 (a_inv zG0 zprot (false, false) zc_32 (zbd 32) (2, 0, 0) 3 9))))) (bn 16 (bn 10 (bl 9 (a_aload 0 10)) (bn 13 (bl 10 (a_getf zG0 zT0 4 0 13)) (bl 13 (a_getf zG0 zT0 6 2 16)))) (bn 20 (bn 19 (bl 16 (a_icmp 3 23 19)) (bl 19 (a_const 1 20))) (bn 23 (bl 20 (a_goto 24)) (bl 23 (a_const 0 24)))))
set_option maxRecDepth 100000 in
set_option maxHeartbeats 4000000 in
theorem zTo_38 {pre : zPre} {post : zPost} (H : zTieC pre post) {d : Nat × Nat × Nat} (hd : zLe (2, 0, 0) d) : aTr zG0 zT0 zInv (false, false) PZ zbd pre post d prog_6_method_6_code "CapitalCase$Press" zTr_38 := (xB_n (xB_n (xB_n (xB_l ⟨_, zs_bipush (v := 100) em37_0 (by decide +kernel), as_const (by decide +kernel)⟩) (xB_n (xB_l ⟨_, zs_iload_n em37_2, as_iload⟩) (xB_l ⟨_, zs_iconst (v := 4) em37_3 (by decide +kernel), as_const (by decide +kernel)⟩))) (xB_n (xB_l ⟨_, zs_iload_n em37_4, as_iload⟩) (xB_n (xB_l ⟨_, zs_imul em37_5, as_bin fmul_ok⟩) (xB_l ⟨_, zs_invS em37_6 zl_32 wd_1036 wd_1037 ((congrFun xo_5 87).trans rfl) xm_32, ag_inv H zh_32 hd (by decide)⟩)))) (xB_n (xB_n (xB_l ⟨_, zs_aload_n em37_9, as_aload⟩) (xB_n (xB_l ⟨_, zs_getf (T := TX4) (M := 2) (ci := 4) (j := 0) em37_10 rfl inX4 (by decide) wd_438 ((congrFun xo_5 9).trans rfl), as_getf zTie⟩) (xB_l ⟨_, zs_getf (T := TX6) (M := 15) (ci := 6) (j := 2) em37_13 rfl inX6 (by decide) wd_179 ((congrFun xo_5 91).trans rfl), as_getf zTie⟩))) (xB_n (xB_n (xB_l ⟨_, zs_icmpge em37_16 (t := 23) (by decide), as_icmp⟩) (xB_l ⟨_, zs_iconst (v := 1) em37_19 (by decide +kernel), as_const (by decide +kernel)⟩)) (xB_n (xB_l ⟨_, zs_goto em37_20 (t := 24) (by decide), as_goto⟩) (xB_l ⟨_, zs_iconst (v := 0) em37_23 (by decide +kernel), as_const (by decide +kernel)⟩)))))
set_option maxRecDepth 100000 in
set_option maxHeartbeats 4000000 in
theorem zM_38 : zOKa 38 zc_38 := z_auto (cuts := []) (rets := [(24, 2)]) (fuel := 1000) rfl rfl (by decide) (xrt_ok (xR_c (Or.inr (Or.inl ⟨rfl, em37_24, rfl⟩)) (xR_n))) (fun _ _ H _ hd => zTo_38 H hd) (by decide +kernel)
theorem em38_0 : decode prog_6_method_5_code 0 = .ok (.iload_n 2, 1) := by decide +kernel
theorem em38_1 : decode prog_6_method_5_code 1 = .ok (.bipush 8, 2) := by decide +kernel
theorem em38_3 : decode prog_6_method_5_code 3 = .ok (.imul, 1) := by decide +kernel
theorem em38_4 : decode prog_6_method_5_code 4 = .ok (.iload_n 3, 1) := by decide +kernel
theorem em38_5 : decode prog_6_method_5_code 5 = .ok (.iadd, 1) := by decide +kernel
theorem em38_6 : decode prog_6_method_5_code 6 = .ok (.istore 4, 2) := by decide +kernel
theorem em38_8 : decode prog_6_method_5_code 8 = .ok (.aload_n 1, 1) := by decide +kernel
theorem em38_9 : decode prog_6_method_5_code 9 = .ok (.getfield 64, 3) := by decide +kernel
theorem em38_12 : decode prog_6_method_5_code 12 = .ok (.iload 4, 2) := by decide +kernel
theorem em38_14 : decode prog_6_method_5_code 14 = .ok (.iaload, 1) := by decide +kernel
theorem em38_15 : decode prog_6_method_5_code 15 = .ok (.ifCond .ne 5, 3) := by decide +kernel
theorem em38_18 : decode prog_6_method_5_code 18 = .ok (.iconst 0, 1) := by decide +kernel
theorem em38_19 : decode prog_6_method_5_code 19 = .ok (.ireturn, 1) := by decide +kernel
theorem em38_20 : decode prog_6_method_5_code 20 = .ok (.aload_n 1, 1) := by decide +kernel
theorem em38_21 : decode prog_6_method_5_code 21 = .ok (.getfield 68, 3) := by decide +kernel
theorem em38_24 : decode prog_6_method_5_code 24 = .ok (.iload 4, 2) := by decide +kernel
theorem em38_26 : decode prog_6_method_5_code 26 = .ok (.iaload, 1) := by decide +kernel
theorem em38_27 : decode prog_6_method_5_code 27 = .ok (.aload_n 1, 1) := by decide +kernel
theorem em38_28 : decode prog_6_method_5_code 28 = .ok (.getfield 64, 3) := by decide +kernel
theorem em38_31 : decode prog_6_method_5_code 31 = .ok (.iload 4, 2) := by decide +kernel
theorem em38_33 : decode prog_6_method_5_code 33 = .ok (.iaload, 1) := by decide +kernel
theorem em38_34 : decode prog_6_method_5_code 34 = .ok (.aload_n 0, 1) := by decide +kernel
theorem em38_35 : decode prog_6_method_5_code 35 = .ok (.getfield 15, 3) := by decide +kernel
theorem em38_38 : decode prog_6_method_5_code 38 = .ok (.aload_n 1, 1) := by decide +kernel
theorem em38_39 : decode prog_6_method_5_code 39 = .ok (.iload_n 2, 1) := by decide +kernel
theorem em38_40 : decode prog_6_method_5_code 40 = .ok (.iload_n 3, 1) := by decide +kernel
theorem em38_41 : decode prog_6_method_5_code 41 = .ok (.invokevirtual 71, 3) := by decide +kernel
theorem em38_44 : decode prog_6_method_5_code 44 = .ok (.imul, 1) := by decide +kernel
theorem em38_45 : decode prog_6_method_5_code 45 = .ok (.iadd, 1) := by decide +kernel
theorem em38_46 : decode prog_6_method_5_code 46 = .ok (.istore 5, 2) := by decide +kernel
theorem em38_48 : decode prog_6_method_5_code 48 = .ok (.aload_n 1, 1) := by decide +kernel
theorem em38_49 : decode prog_6_method_5_code 49 = .ok (.getfield 68, 3) := by decide +kernel
theorem em38_52 : decode prog_6_method_5_code 52 = .ok (.iload 4, 2) := by decide +kernel
theorem em38_54 : decode prog_6_method_5_code 54 = .ok (.sipush 999, 3) := by decide +kernel
theorem em38_57 : decode prog_6_method_5_code 57 = .ok (.iload 5, 2) := by decide +kernel
theorem em38_59 : decode prog_6_method_5_code 59 = .ok (.invokestatic 75, 3) := by decide +kernel
theorem em38_62 : decode prog_6_method_5_code 62 = .ok (.iastore, 1) := by decide +kernel
theorem em38_63 : decode prog_6_method_5_code 63 = .ok (.aload_n 1, 1) := by decide +kernel
theorem em38_64 : decode prog_6_method_5_code 64 = .ok (.getfield 68, 3) := by decide +kernel
theorem em38_67 : decode prog_6_method_5_code 67 = .ok (.iload 4, 2) := by decide +kernel
theorem em38_69 : decode prog_6_method_5_code 69 = .ok (.iaload, 1) := by decide +kernel
theorem em38_70 : decode prog_6_method_5_code 70 = .ok (.aload_n 0, 1) := by decide +kernel
theorem em38_71 : decode prog_6_method_5_code 71 = .ok (.getfield 9, 3) := by decide +kernel
theorem em38_74 : decode prog_6_method_5_code 74 = .ok (.getfield 80, 3) := by decide +kernel
theorem em38_77 : decode prog_6_method_5_code 77 = .ok (.if_icmp .ge 5, 3) := by decide +kernel
theorem em38_80 : decode prog_6_method_5_code 80 = .ok (.iconst 0, 1) := by decide +kernel
theorem em38_81 : decode prog_6_method_5_code 81 = .ok (.ireturn, 1) := by decide +kernel
theorem em38_82 : decode prog_6_method_5_code 82 = .ok (.aload_n 1, 1) := by decide +kernel
theorem em38_83 : decode prog_6_method_5_code 83 = .ok (.getfield 68, 3) := by decide +kernel
theorem em38_86 : decode prog_6_method_5_code 86 = .ok (.iload 4, 2) := by decide +kernel
theorem em38_88 : decode prog_6_method_5_code 88 = .ok (.iconst 0, 1) := by decide +kernel
theorem em38_89 : decode prog_6_method_5_code 89 = .ok (.iastore, 1) := by decide +kernel
theorem em38_90 : decode prog_6_method_5_code 90 = .ok (.aload_n 1, 1) := by decide +kernel
theorem em38_91 : decode prog_6_method_5_code 91 = .ok (.iload 4, 2) := by decide +kernel
theorem em38_93 : decode prog_6_method_5_code 93 = .ok (.invokevirtual 83, 3) := by decide +kernel
theorem em38_96 : decode prog_6_method_5_code 96 = .ok (.ireturn, 1) := by decide +kernel
/-! CapitalCase$Press.wear:(LCapitalCase$Town;II)Z -/
noncomputable def zTr_39 : Nat → Option aF := bn 44 (bn 21 (bn 8 (bn 4 (bn 1 (bl 0 (a_iload 2 1)) (bn 3 (bl 1 (a_const 8 3)) (bl 3 (a_bin fmul 4)))) (bn 5 (bl 4 (a_iload 3 5)) (bn 6 (bl 5 (a_bin fadd 6)) (bl 6 (a_istore 4 8))))) (bn 14 (bn 9 (bl 8 (a_aload 1 9)) (bn 12 (bl 9 (a_getf zG0 zT0 8 1 12)) (bl 12 (a_iload 4 14)))) (bn 18 (bn 15 (bl 14 (a_ald zG0 zT0 (true, false) ts0 15)) (bl 15 (a_if 1 20 18))) (bn 20 (bl 18 (a_const 0 19)) (bl 20 (a_aload 1 21)))))) (bn 33 (bn 27 (bn 24 (bl 21 (a_getf zG0 zT0 8 2 24)) (bn 26 (bl 24 (a_iload 4 26)) (bl 26 (a_ald zG0 zT0 (true, false) ts0 27)))) (bn 28 (bl 27 (a_aload 1 28)) (bn 31 (bl 28 (a_getf zG0 zT0 8 1 31)) (bl 31 (a_iload 4 33))))) (bn 38 (bn 34 (bl 33 (a_ald zG0 zT0 (true, false) ts0 34)) (bn 35 (bl 34 (a_aload 0 35)) (bl 35 (a_getf zG0 zT0 4 1 38)))) (bn 40 (bn 39 (bl 38 (a_aload 1 39)) (bl 39 (a_iload 2 40))) (bn 41 (bl 40 (a_iload 3 41)) (bl 41 (a_invV zG0 zprot (true, false) zc_8 (zbd 8) (7, 0, 0) 1 4 44))))))) (bn 69 (bn 54 (bn 48 (bn 45 (bl 44 (a_bin fmul 45)) (bn 46 (bl 45 (a_bin fadd 46)) (bl 46 (a_istore 5 48)))) (bn 49 (bl 48 (a_aload 1 49)) (bn 52 (bl 49 (a_getf zG0 zT0 8 2 52)) (bl 52 (a_iload 4 54))))) (bn 62 (bn 57 (bl 54 (a_const 999 57)) (bn 59 (bl 57 (a_iload 5 59)) (bl 59 (a_math fmin 62)))) (bn 64 (bn 63 (bl 62 (a_ast zG0 zT0 ts0 63)) (bl 63 (a_aload 1 64))) (bn 67 (bl 64 (a_getf zG0 zT0 8 2 67)) (bl 67 (a_iload 4 69)))))) (bn 83 (bn 74 (bn 70 (bl 69 (a_ald zG0 zT0 (true, false) ts0 70)) (bn 71 (bl 70 (a_aload 0 71)) (bl 71 (a_getf zG0 zT0 4 0 74)))) (bn 80 (bn 77 (bl 74 (a_getf zG0 zT0 6 4 77)) (bl 77 (a_icmp 3 82 80))) (bn 82 (bl 80 (a_const 0 81)) (bl 82 (a_aload 1 83))))) (bn 89 (bn 86 (bl 83 (a_getf zG0 zT0 8 2 86)) (bn 88 (bl 86 (a_iload 4 88)) (bl 88 (a_const 0 89)))) (bn 91 (bn 90 (bl 89 (a_ast zG0 zT0 ts0 90)) (bl 90 (a_aload 1 91))) (bn 93 (bl 91 (a_iload 4 93)) (bl 93 (a_invV zG0 zprot (true, false) zc_60 (zbd 60) (7, 0, 0) 8 2 96)))))))
set_option maxRecDepth 100000 in
set_option maxHeartbeats 4000000 in
theorem zTo_39 {pre : zPre} {post : zPost} (H : zTieC pre post) {d : Nat × Nat × Nat} (hd : zLe (7, 0, 0) d) : aTr zG0 zT0 zInv (true, false) PZ zbd pre post d prog_6_method_5_code "CapitalCase$Press" zTr_39 := (xB_n (xB_n (xB_n (xB_n (xB_n (xB_l ⟨_, zs_iload_n em38_0, as_iload⟩) (xB_n (xB_l ⟨_, zs_bipush (v := 8) em38_1 (by decide +kernel), as_const (by decide +kernel)⟩) (xB_l ⟨_, zs_imul em38_3, as_bin fmul_ok⟩))) (xB_n (xB_l ⟨_, zs_iload_n em38_4, as_iload⟩) (xB_n (xB_l ⟨_, zs_iadd em38_5, as_bin fadd_ok⟩) (xB_l ⟨_, zs_istore em38_6, as_istore⟩)))) (xB_n (xB_n (xB_l ⟨_, zs_aload_n em38_8, as_aload⟩) (xB_n (xB_l ⟨_, zs_getf (T := TX8) (M := 10) (ci := 8) (j := 1) em38_9 rfl inX8 (by decide) wd_327 ((congrFun xo_5 64).trans rfl), as_getf zTie⟩) (xB_l ⟨_, zs_iload em38_12, as_iload⟩))) (xB_n (xB_n (xB_l ⟨_, zs_iald em38_14, ag_iald⟩) (xB_l ⟨_, zs_ifne em38_15 (t := 20) (by decide), as_if⟩)) (xB_n (xB_l ⟨_, zs_iconst (v := 0) em38_18 (by decide +kernel), as_const (by decide +kernel)⟩) (xB_l ⟨_, zs_aload_n em38_20, as_aload⟩))))) (xB_n (xB_n (xB_n (xB_l ⟨_, zs_getf (T := TX8) (M := 10) (ci := 8) (j := 2) em38_21 rfl inX8 (by decide) wd_331 ((congrFun xo_5 68).trans rfl), as_getf zTie⟩) (xB_n (xB_l ⟨_, zs_iload em38_24, as_iload⟩) (xB_l ⟨_, zs_iald em38_26, ag_iald⟩))) (xB_n (xB_l ⟨_, zs_aload_n em38_27, as_aload⟩) (xB_n (xB_l ⟨_, zs_getf (T := TX8) (M := 10) (ci := 8) (j := 1) em38_28 rfl inX8 (by decide) wd_327 ((congrFun xo_5 64).trans rfl), as_getf zTie⟩) (xB_l ⟨_, zs_iload em38_31, as_iload⟩)))) (xB_n (xB_n (xB_l ⟨_, zs_iald em38_33, ag_iald⟩) (xB_n (xB_l ⟨_, zs_aload_n em38_34, as_aload⟩) (xB_l ⟨_, zs_getf (T := TX4) (M := 2) (ci := 4) (j := 1) em38_35 rfl inX4 (by decide) wd_439 ((congrFun xo_5 15).trans rfl), as_getf zTie⟩))) (xB_n (xB_n (xB_l ⟨_, zs_aload_n em38_38, as_aload⟩) (xB_l ⟨_, zs_iload_n em38_39, as_iload⟩)) (xB_n (xB_l ⟨_, zs_iload_n em38_40, as_iload⟩) (xB_l ⟨_, zs_invV (T := TX1) em38_41 zl_8 rfl wd_1022 wd_872 wd_873 ((congrFun xo_5 71).trans rfl) xm_8, ag_invV H zh_8 hd (by decide)⟩)))))) (xB_n (xB_n (xB_n (xB_n (xB_l ⟨_, zs_imul em38_44, as_bin fmul_ok⟩) (xB_n (xB_l ⟨_, zs_iadd em38_45, as_bin fadd_ok⟩) (xB_l ⟨_, zs_istore em38_46, as_istore⟩))) (xB_n (xB_l ⟨_, zs_aload_n em38_48, as_aload⟩) (xB_n (xB_l ⟨_, zs_getf (T := TX8) (M := 10) (ci := 8) (j := 2) em38_49 rfl inX8 (by decide) wd_331 ((congrFun xo_5 68).trans rfl), as_getf zTie⟩) (xB_l ⟨_, zs_iload em38_52, as_iload⟩)))) (xB_n (xB_n (xB_l ⟨_, zs_sipush (v := 999) em38_54 (by decide +kernel), as_const (by decide +kernel)⟩) (xB_n (xB_l ⟨_, zs_iload em38_57, as_iload⟩) (xB_l ⟨_, zs_min em38_59 wd_1023 wd_716 wd_129 wz_min ((congrFun xo_5 75).trans rfl), as_math fmin_ok⟩))) (xB_n (xB_n (xB_l ⟨_, zs_iast zInj0 em38_62, as_iast zTie⟩) (xB_l ⟨_, zs_aload_n em38_63, as_aload⟩)) (xB_n (xB_l ⟨_, zs_getf (T := TX8) (M := 10) (ci := 8) (j := 2) em38_64 rfl inX8 (by decide) wd_331 ((congrFun xo_5 68).trans rfl), as_getf zTie⟩) (xB_l ⟨_, zs_iload em38_67, as_iload⟩))))) (xB_n (xB_n (xB_n (xB_l ⟨_, zs_iald em38_69, ag_iald⟩) (xB_n (xB_l ⟨_, zs_aload_n em38_70, as_aload⟩) (xB_l ⟨_, zs_getf (T := TX4) (M := 2) (ci := 4) (j := 0) em38_71 rfl inX4 (by decide) wd_438 ((congrFun xo_5 9).trans rfl), as_getf zTie⟩))) (xB_n (xB_n (xB_l ⟨_, zs_getf (T := TX6) (M := 15) (ci := 6) (j := 4) em38_74 rfl inX6 (by decide) wd_176 ((congrFun xo_5 80).trans rfl), as_getf zTie⟩) (xB_l ⟨_, zs_icmpge em38_77 (t := 82) (by decide), as_icmp⟩)) (xB_n (xB_l ⟨_, zs_iconst (v := 0) em38_80 (by decide +kernel), as_const (by decide +kernel)⟩) (xB_l ⟨_, zs_aload_n em38_82, as_aload⟩)))) (xB_n (xB_n (xB_l ⟨_, zs_getf (T := TX8) (M := 10) (ci := 8) (j := 2) em38_83 rfl inX8 (by decide) wd_331 ((congrFun xo_5 68).trans rfl), as_getf zTie⟩) (xB_n (xB_l ⟨_, zs_iload em38_86, as_iload⟩) (xB_l ⟨_, zs_iconst (v := 0) em38_88 (by decide +kernel), as_const (by decide +kernel)⟩))) (xB_n (xB_n (xB_l ⟨_, zs_iast zInj0 em38_89, as_iast zTie⟩) (xB_l ⟨_, zs_aload_n em38_90, as_aload⟩)) (xB_n (xB_l ⟨_, zs_iload em38_91, as_iload⟩) (xB_l ⟨_, zs_invV (T := TX8) em38_93 zl_60 rfl wd_1024 wd_1025 wd_1026 ((congrFun xo_5 83).trans rfl) xm_56, ag_invV H zh_60 hd (by decide)⟩)))))))
set_option maxRecDepth 100000 in
set_option maxHeartbeats 4000000 in
theorem zM_39 : zOKa 39 zc_39 := z_auto (cuts := []) (rets := [(19, 2), (81, 2), (96, 2)]) (fuel := 1000) rfl rfl (by decide) (xrt_ok (xR_c (Or.inr (Or.inl ⟨rfl, em38_19, rfl⟩)) (xR_c (Or.inr (Or.inl ⟨rfl, em38_81, rfl⟩)) (xR_c (Or.inr (Or.inl ⟨rfl, em38_96, rfl⟩)) (xR_n))))) (fun _ _ H _ hd => zTo_39 H hd) (by decide +kernel)
theorem em39_0 : decode prog_6_method_4_code 0 = .ok (.aload_n 1, 1) := by decide +kernel
theorem em39_1 : decode prog_6_method_4_code 1 = .ok (.dup, 1) := by decide +kernel
theorem em39_2 : decode prog_6_method_4_code 2 = .ok (.getfield 50, 3) := by decide +kernel
theorem em39_5 : decode prog_6_method_4_code 5 = .ok (.aload_n 0, 1) := by decide +kernel
theorem em39_6 : decode prog_6_method_4_code 6 = .ok (.aload_n 1, 1) := by decide +kernel
theorem em39_7 : decode prog_6_method_4_code 7 = .ok (.invokevirtual 53, 3) := by decide +kernel
theorem em39_10 : decode prog_6_method_4_code 10 = .ok (.iadd, 1) := by decide +kernel
theorem em39_11 : decode prog_6_method_4_code 11 = .ok (.putfield 50, 3) := by decide +kernel
theorem em39_14 : decode prog_6_method_4_code 14 = .ok (.aload_n 1, 1) := by decide +kernel
theorem em39_15 : decode prog_6_method_4_code 15 = .ok (.dup, 1) := by decide +kernel
theorem em39_16 : decode prog_6_method_4_code 16 = .ok (.getfield 41, 3) := by decide +kernel
theorem em39_19 : decode prog_6_method_4_code 19 = .ok (.aload_n 1, 1) := by decide +kernel
theorem em39_20 : decode prog_6_method_4_code 20 = .ok (.getfield 38, 3) := by decide +kernel
theorem em39_23 : decode prog_6_method_4_code 23 = .ok (.ior, 1) := by decide +kernel
theorem em39_24 : decode prog_6_method_4_code 24 = .ok (.putfield 41, 3) := by decide +kernel
theorem em39_27 : decode prog_6_method_4_code 27 = .ok (.iconst 0, 1) := by decide +kernel
theorem em39_28 : decode prog_6_method_4_code 28 = .ok (.istore_n 2, 1) := by decide +kernel
theorem em39_29 : decode prog_6_method_4_code 29 = .ok (.iload_n 2, 1) := by decide +kernel
theorem em39_30 : decode prog_6_method_4_code 30 = .ok (.aload_n 0, 1) := by decide +kernel
theorem em39_31 : decode prog_6_method_4_code 31 = .ok (.getfield 9, 3) := by decide +kernel
theorem em39_34 : decode prog_6_method_4_code 34 = .ok (.getfield 57, 3) := by decide +kernel
theorem em39_37 : decode prog_6_method_4_code 37 = .ok (.if_icmp .ge 31, 3) := by decide +kernel
theorem em39_40 : decode prog_6_method_4_code 40 = .ok (.iconst 0, 1) := by decide +kernel
theorem em39_41 : decode prog_6_method_4_code 41 = .ok (.istore_n 3, 1) := by decide +kernel
theorem em39_42 : decode prog_6_method_4_code 42 = .ok (.iload_n 3, 1) := by decide +kernel
theorem em39_43 : decode prog_6_method_4_code 43 = .ok (.bipush 8, 2) := by decide +kernel
theorem em39_45 : decode prog_6_method_4_code 45 = .ok (.if_icmp .ge 17, 3) := by decide +kernel
theorem em39_48 : decode prog_6_method_4_code 48 = .ok (.aload_n 0, 1) := by decide +kernel
theorem em39_49 : decode prog_6_method_4_code 49 = .ok (.aload_n 1, 1) := by decide +kernel
theorem em39_50 : decode prog_6_method_4_code 50 = .ok (.iload_n 2, 1) := by decide +kernel
theorem em39_51 : decode prog_6_method_4_code 51 = .ok (.iload_n 3, 1) := by decide +kernel
theorem em39_52 : decode prog_6_method_4_code 52 = .ok (.invokevirtual 60, 3) := by decide +kernel
theorem em39_55 : decode prog_6_method_4_code 55 = .ok (.pop, 1) := by decide +kernel
theorem em39_56 : decode prog_6_method_4_code 56 = .ok (.iinc 3 1, 3) := by decide +kernel
theorem em39_59 : decode prog_6_method_4_code 59 = .ok (.goto (-17), 3) := by decide +kernel
theorem em39_62 : decode prog_6_method_4_code 62 = .ok (.iinc 2 1, 3) := by decide +kernel
theorem em39_65 : decode prog_6_method_4_code 65 = .ok (.goto (-36), 3) := by decide +kernel
theorem em39_68 : decode prog_6_method_4_code 68 = .ok (.return_, 1) := by decide +kernel
/-! CapitalCase$Press.work:(LCapitalCase$Town;)V -/
noncomputable def zTr_40 : Nat → Option aF := bn 30 (bn 15 (bn 6 (bn 2 (bn 1 (bl 0 (a_aload 1 1)) (bl 1 (a_dup 2))) (bn 5 (bl 2 (a_getf zG0 zT0 8 8 5)) (bl 5 (a_aload 0 6)))) (bn 10 (bn 7 (bl 6 (a_aload 1 7)) (bl 7 (a_invV zG0 zprot (true, false) zc_35 (zbd 35) (8, 0, 0) 4 2 10))) (bn 11 (bl 10 (a_bin fadd 11)) (bn 14 (bl 11 (a_puti zG0 zT0 zprot 8 8 0 14)) (bl 14 (a_aload 1 15)))))) (bn 23 (bn 19 (bn 16 (bl 15 (a_dup 16)) (bl 16 (a_getf zG0 zT0 8 6 19))) (bn 20 (bl 19 (a_aload 1 20)) (bl 20 (a_getf zG0 zT0 8 5 23)))) (bn 27 (bn 24 (bl 23 (a_bin fany 24)) (bl 24 (a_puti zG0 zT0 zprot 8 6 0 27))) (bn 28 (bl 27 (a_const 0 28)) (bn 29 (bl 28 (a_istore 2 29)) (bl 29 (a_iload 2 30))))))) (bn 48 (bn 40 (bn 34 (bn 31 (bl 30 (a_aload 0 31)) (bl 31 (a_getf zG0 zT0 4 0 34))) (bn 37 (bl 34 (a_getf zG0 zT0 6 0 37)) (bl 37 (a_icmp 3 68 40)))) (bn 42 (bn 41 (bl 40 (a_const 0 41)) (bl 41 (a_istore 3 42))) (bn 43 (bl 42 (a_iload 3 43)) (bn 45 (bl 43 (a_const 8 45)) (bl 45 (a_icmp 3 62 48)))))) (bn 55 (bn 50 (bn 49 (bl 48 (a_aload 0 49)) (bl 49 (a_aload 1 50))) (bn 51 (bl 50 (a_iload 2 51)) (bn 52 (bl 51 (a_iload 3 52)) (bl 52 (a_invV zG0 zprot (true, false) zc_39 (zbd 39) (8, 0, 0) 4 4 55))))) (bn 59 (bn 56 (bl 55 (a_pop 56)) (bl 56 (a_iinc 3 1 59))) (bn 62 (bl 59 (a_goto 42)) (bn 65 (bl 62 (a_iinc 2 1 65)) (bl 65 (a_goto 29)))))))
set_option maxRecDepth 100000 in
set_option maxHeartbeats 4000000 in
theorem zTo_40 {pre : zPre} {post : zPost} (H : zTieC pre post) {d : Nat × Nat × Nat} (hd : zLe (8, 0, 0) d) : aTr zG0 zT0 zInv (true, false) PZ zbd pre post d prog_6_method_4_code "CapitalCase$Press" zTr_40 := (xB_n (xB_n (xB_n (xB_n (xB_n (xB_l ⟨_, zs_aload_n em39_0, as_aload⟩) (xB_l ⟨_, zs_dup em39_1, as_dup⟩)) (xB_n (xB_l ⟨_, zs_getf (T := TX8) (M := 10) (ci := 8) (j := 8) em39_2 rfl inX8 (by decide) wd_351 ((congrFun xo_5 50).trans rfl), as_getf zTie⟩) (xB_l ⟨_, zs_aload_n em39_5, as_aload⟩))) (xB_n (xB_n (xB_l ⟨_, zs_aload_n em39_6, as_aload⟩) (xB_l ⟨_, zs_invV (T := TX4) em39_7 zl_35 rfl wd_1013 wd_1014 wd_1015 ((congrFun xo_5 53).trans rfl) xm_34, ag_invV H zh_35 hd (by decide)⟩)) (xB_n (xB_l ⟨_, zs_iadd em39_10, as_bin fadd_ok⟩) (xB_n (xB_l ⟨_, zs_puti zInj0 (T := TX8) (M := 10) (ty := tyX8) (ci := 8) (j := 8) (kd := 0) em39_11 rfl inX8 tyX8_ok nmX8 (by decide) wd_351 (Or.inl ⟨rfl, rfl⟩) rfl ((congrFun xo_5 50).trans rfl), ag_puti0⟩) (xB_l ⟨_, zs_aload_n em39_14, as_aload⟩))))) (xB_n (xB_n (xB_n (xB_l ⟨_, zs_dup em39_15, as_dup⟩) (xB_l ⟨_, zs_getf (T := TX8) (M := 10) (ci := 8) (j := 6) em39_16 rfl inX8 (by decide) wd_342 ((congrFun xo_5 41).trans rfl), as_getf zTie⟩)) (xB_n (xB_l ⟨_, zs_aload_n em39_19, as_aload⟩) (xB_l ⟨_, zs_getf (T := TX8) (M := 10) (ci := 8) (j := 5) em39_20 rfl inX8 (by decide) wd_339 ((congrFun xo_5 38).trans rfl), as_getf zTie⟩))) (xB_n (xB_n (xB_l ⟨_, zs_ior em39_23, as_bin fany_ok⟩) (xB_l ⟨_, zs_puti zInj0 (T := TX8) (M := 10) (ty := tyX8) (ci := 8) (j := 6) (kd := 0) em39_24 rfl inX8 tyX8_ok nmX8 (by decide) wd_342 (Or.inl ⟨rfl, rfl⟩) rfl ((congrFun xo_5 41).trans rfl), ag_puti0⟩)) (xB_n (xB_l ⟨_, zs_iconst (v := 0) em39_27 (by decide +kernel), as_const (by decide +kernel)⟩) (xB_n (xB_l ⟨_, zs_istore_n em39_28, as_istore⟩) (xB_l ⟨_, zs_iload_n em39_29, as_iload⟩)))))) (xB_n (xB_n (xB_n (xB_n (xB_l ⟨_, zs_aload_n em39_30, as_aload⟩) (xB_l ⟨_, zs_getf (T := TX4) (M := 2) (ci := 4) (j := 0) em39_31 rfl inX4 (by decide) wd_438 ((congrFun xo_5 9).trans rfl), as_getf zTie⟩)) (xB_n (xB_l ⟨_, zs_getf (T := TX6) (M := 15) (ci := 6) (j := 0) em39_34 rfl inX6 (by decide) wd_165 ((congrFun xo_5 57).trans rfl), as_getf zTie⟩) (xB_l ⟨_, zs_icmpge em39_37 (t := 68) (by decide), as_icmp⟩))) (xB_n (xB_n (xB_l ⟨_, zs_iconst (v := 0) em39_40 (by decide +kernel), as_const (by decide +kernel)⟩) (xB_l ⟨_, zs_istore_n em39_41, as_istore⟩)) (xB_n (xB_l ⟨_, zs_iload_n em39_42, as_iload⟩) (xB_n (xB_l ⟨_, zs_bipush (v := 8) em39_43 (by decide +kernel), as_const (by decide +kernel)⟩) (xB_l ⟨_, zs_icmpge em39_45 (t := 62) (by decide), as_icmp⟩))))) (xB_n (xB_n (xB_n (xB_l ⟨_, zs_aload_n em39_48, as_aload⟩) (xB_l ⟨_, zs_aload_n em39_49, as_aload⟩)) (xB_n (xB_l ⟨_, zs_iload_n em39_50, as_iload⟩) (xB_n (xB_l ⟨_, zs_iload_n em39_51, as_iload⟩) (xB_l ⟨_, zs_invV (T := TX4) em39_52 zl_39 rfl wd_1018 wd_1020 wd_30 ((congrFun xo_5 60).trans rfl) xm_38, ag_invV H zh_39 hd (by decide)⟩)))) (xB_n (xB_n (xB_l ⟨_, zs_pop em39_55, as_pop⟩) (xB_l ⟨_, zs_iinc (k := 1) em39_56 (by decide +kernel), as_iinc (by decide +kernel)⟩)) (xB_n (xB_l ⟨_, zs_goto em39_59 (t := 42) (by decide), as_goto⟩) (xB_n (xB_l ⟨_, zs_iinc (k := 1) em39_62 (by decide +kernel), as_iinc (by decide +kernel)⟩) (xB_l ⟨_, zs_goto em39_65 (t := 29) (by decide), as_goto⟩)))))))
set_option maxRecDepth 100000 in
set_option maxHeartbeats 4000000 in
theorem zM_40 : zOKa 40 zc_40 := z_auto (cuts := [(29, ([(0, 0), (0, 408), (0, 5), (0, 7), (0, 5)], [], [some (.inr (.inl (0, 51))), some (.inr (.inl (1, 1000))), some (.inl (4, 0)), none], [], [(4, 1, 0), (5, 2, 0), (6, 3, 0)], (0, 0)), [(0, 2)], 59, [0, 0, 0, 0, (-10)]), (42, ([(0, 0), (0, 408), (0, 5), (0, 7), (0, 4), (0, 8)], [], [some (.inr (.inl (0, 51))), some (.inr (.inl (1, 1000))), some (.inl (4, 0)), some (.inl (5, 0))], [], [(4, 1, 0), (5, 2, 0), (6, 3, 0)], (0, 0)), [(0, 2), (0, 3)], 58, [0, 0, 0, 0, (-10), (-1)])]) (rets := [(68, 3)]) (fuel := 1000) rfl rfl (by decide) (xrt_ok (xR_c (Or.inr (Or.inr (Or.inl ⟨rfl, em39_68, rfl⟩))) (xR_n))) (fun _ _ H _ hd => zTo_40 H hd) (by decide +kernel)
