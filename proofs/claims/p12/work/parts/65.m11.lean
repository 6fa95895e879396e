theorem em186_0 : decode prog_14_method_98_code 0 = .ok (.iload_n 1, 1) := by decide +kernel
theorem em186_1 : decode prog_14_method_98_code 1 = .ok (.iconst 0, 1) := by decide +kernel
theorem em186_2 : decode prog_14_method_98_code 2 = .ok (.sipush 255, 3) := by decide +kernel
theorem em186_5 : decode prog_14_method_98_code 5 = .ok (.invokestatic 324, 3) := by decide +kernel
theorem em186_8 : decode prog_14_method_98_code 8 = .ok (.ifCond .ne 5, 3) := by decide +kernel
theorem em186_11 : decode prog_14_method_98_code 11 = .ok (.iconst (-1), 1) := by decide +kernel
theorem em186_12 : decode prog_14_method_98_code 12 = .ok (.ireturn, 1) := by decide +kernel
theorem em186_13 : decode prog_14_method_98_code 13 = .ok (.aload_n 0, 1) := by decide +kernel
theorem em186_14 : decode prog_14_method_98_code 14 = .ok (.invokevirtual 411, 3) := by decide +kernel
theorem em186_17 : decode prog_14_method_98_code 17 = .ok (.aload_n 0, 1) := by decide +kernel
theorem em186_18 : decode prog_14_method_98_code 18 = .ok (.invokevirtual 436, 3) := by decide +kernel
theorem em186_21 : decode prog_14_method_98_code 21 = .ok (.istore_n 2, 1) := by decide +kernel
theorem em186_22 : decode prog_14_method_98_code 22 = .ok (.iconst 0, 1) := by decide +kernel
theorem em186_23 : decode prog_14_method_98_code 23 = .ok (.istore_n 3, 1) := by decide +kernel
theorem em186_24 : decode prog_14_method_98_code 24 = .ok (.iload_n 3, 1) := by decide +kernel
theorem em186_25 : decode prog_14_method_98_code 25 = .ok (.aload_n 0, 1) := by decide +kernel
theorem em186_26 : decode prog_14_method_98_code 26 = .ok (.getfield 49, 3) := by decide +kernel
theorem em186_29 : decode prog_14_method_98_code 29 = .ok (.aload_n 0, 1) := by decide +kernel
theorem em186_30 : decode prog_14_method_98_code 30 = .ok (.getfield 230, 3) := by decide +kernel
theorem em186_33 : decode prog_14_method_98_code 33 = .ok (.iaload, 1) := by decide +kernel
theorem em186_34 : decode prog_14_method_98_code 34 = .ok (.if_icmp .ge 53, 3) := by decide +kernel
theorem em186_37 : decode prog_14_method_98_code 37 = .ok (.iconst 0, 1) := by decide +kernel
theorem em186_38 : decode prog_14_method_98_code 38 = .ok (.istore 4, 2) := by decide +kernel
theorem em186_40 : decode prog_14_method_98_code 40 = .ok (.iload 4, 2) := by decide +kernel
theorem em186_42 : decode prog_14_method_98_code 42 = .ok (.bipush 8, 2) := by decide +kernel
theorem em186_44 : decode prog_14_method_98_code 44 = .ok (.if_icmp .ge 37, 3) := by decide +kernel
theorem em186_47 : decode prog_14_method_98_code 47 = .ok (.iload_n 1, 1) := by decide +kernel
theorem em186_48 : decode prog_14_method_98_code 48 = .ok (.iload 4, 2) := by decide +kernel
theorem em186_50 : decode prog_14_method_98_code 50 = .ok (.ishr, 1) := by decide +kernel
theorem em186_51 : decode prog_14_method_98_code 51 = .ok (.iconst 1, 1) := by decide +kernel
theorem em186_52 : decode prog_14_method_98_code 52 = .ok (.iand, 1) := by decide +kernel
theorem em186_53 : decode prog_14_method_98_code 53 = .ok (.iconst 1, 1) := by decide +kernel
theorem em186_54 : decode prog_14_method_98_code 54 = .ok (.if_icmp .ne 21, 3) := by decide +kernel
theorem em186_57 : decode prog_14_method_98_code 57 = .ok (.aload_n 0, 1) := by decide +kernel
theorem em186_58 : decode prog_14_method_98_code 58 = .ok (.iload_n 3, 1) := by decide +kernel
theorem em186_59 : decode prog_14_method_98_code 59 = .ok (.iload 4, 2) := by decide +kernel
theorem em186_61 : decode prog_14_method_98_code 61 = .ok (.invokevirtual 457, 3) := by decide +kernel
theorem em186_64 : decode prog_14_method_98_code 64 = .ok (.ifCond .le 11, 3) := by decide +kernel
theorem em186_67 : decode prog_14_method_98_code 67 = .ok (.iload_n 2, 1) := by decide +kernel
theorem em186_68 : decode prog_14_method_98_code 68 = .ok (.iconst 1, 1) := by decide +kernel
theorem em186_69 : decode prog_14_method_98_code 69 = .ok (.iload_n 3, 1) := by decide +kernel
theorem em186_70 : decode prog_14_method_98_code 70 = .ok (.ishl, 1) := by decide +kernel
theorem em186_71 : decode prog_14_method_98_code 71 = .ok (.iconst (-1), 1) := by decide +kernel
theorem em186_72 : decode prog_14_method_98_code 72 = .ok (.ixor, 1) := by decide +kernel
theorem em186_73 : decode prog_14_method_98_code 73 = .ok (.iand, 1) := by decide +kernel
theorem em186_74 : decode prog_14_method_98_code 74 = .ok (.istore_n 2, 1) := by decide +kernel
theorem em186_75 : decode prog_14_method_98_code 75 = .ok (.iinc 4 1, 3) := by decide +kernel
theorem em186_78 : decode prog_14_method_98_code 78 = .ok (.goto (-38), 3) := by decide +kernel
theorem em186_81 : decode prog_14_method_98_code 81 = .ok (.iinc 3 1, 3) := by decide +kernel
theorem em186_84 : decode prog_14_method_98_code 84 = .ok (.goto (-60), 3) := by decide +kernel
theorem em186_87 : decode prog_14_method_98_code 87 = .ok (.iload_n 2, 1) := by decide +kernel
theorem em186_88 : decode prog_14_method_98_code 88 = .ok (.ireturn, 1) := by decide +kernel
/-! CapitalCaseModel.strike:(I)I -/
noncomputable def zTr_213 : Nat → Option aF := bn 47 (bn 23 (bn 13 (bn 5 (bn 1 (bl 0 (a_iload 1 1)) (bn 2 (bl 1 (a_const 0 2)) (bl 2 (a_const 255 5)))) (bn 8 (bl 5 (a_inv zG0 zprot (true, false) zc_165 (zbd 165) (2, 0, 0) 3 8)) (bn 11 (bl 8 (a_if 1 13 11)) (bl 11 (a_const (-1) 12))))) (bn 18 (bn 14 (bl 13 (a_aload 0 14)) (bn 17 (bl 14 (a_invV zG0 zprot (true, false) zc_136 (zbd 136) (2, 0, 0) 12 1 17)) (bl 17 (a_aload 0 18)))) (bn 21 (bl 18 (a_invV zG0 zprot (true, false) zc_199 (zbd 199) (2, 0, 0) 12 1 21)) (bn 22 (bl 21 (a_istore 2 22)) (bl 22 (a_const 0 23)))))) (bn 33 (bn 26 (bn 24 (bl 23 (a_istore 3 24)) (bn 25 (bl 24 (a_iload 3 25)) (bl 25 (a_aload 0 26)))) (bn 29 (bl 26 (a_getf zG0 zT0 12 4 29)) (bn 30 (bl 29 (a_aload 0 30)) (bl 30 (a_getf zG0 zT0 12 2 33))))) (bn 38 (bn 34 (bl 33 (a_ald zG0 zT0 (true, false) ts0 34)) (bn 37 (bl 34 (a_icmp 3 87 37)) (bl 37 (a_const 0 38)))) (bn 42 (bn 40 (bl 38 (a_istore 4 40)) (bl 40 (a_iload 4 42))) (bn 44 (bl 42 (a_const 8 44)) (bl 44 (a_icmp 3 81 47))))))) (bn 67 (bn 54 (bn 51 (bn 48 (bl 47 (a_iload 1 48)) (bn 50 (bl 48 (a_iload 4 50)) (bl 50 (a_bin fany 51)))) (bn 52 (bl 51 (a_const 1 52)) (bn 53 (bl 52 (a_bin fand 53)) (bl 53 (a_const 1 54))))) (bn 59 (bn 57 (bl 54 (a_icmp 1 75 57)) (bn 58 (bl 57 (a_aload 0 58)) (bl 58 (a_iload 3 59)))) (bn 61 (bl 59 (a_iload 4 61)) (bn 64 (bl 61 (a_invV zG0 zprot (true, false) zc_198 (zbd 198) (2, 0, 0) 12 3 64)) (bl 64 (a_if 5 75 67)))))) (bn 73 (bn 70 (bn 68 (bl 67 (a_iload 2 68)) (bn 69 (bl 68 (a_const 1 69)) (bl 69 (a_iload 3 70)))) (bn 71 (bl 70 (a_bin fshl 71)) (bn 72 (bl 71 (a_const (-1) 72)) (bl 72 (a_bin fany 73))))) (bn 78 (bn 74 (bl 73 (a_bin fand 74)) (bn 75 (bl 74 (a_istore 2 75)) (bl 75 (a_iinc 4 1 78)))) (bn 84 (bn 81 (bl 78 (a_goto 40)) (bl 81 (a_iinc 3 1 84))) (bn 87 (bl 84 (a_goto 24)) (bl 87 (a_iload 2 88)))))))
set_option maxRecDepth 100000 in
set_option maxHeartbeats 4000000 in
theorem zTo_213 {pre : zPre} {post : zPost} (H : zTieC pre post) {d : Nat × Nat × Nat} (hd : zLe (2, 0, 0) d) : aTr zG0 zT0 zInv (true, false) PZ zbd pre post d prog_14_method_98_code "CapitalCaseModel" zTr_213 := (xB_n (xB_n (xB_n (xB_n (xB_n (xB_l ⟨_, zs_iload_n em186_0, as_iload⟩) (xB_n (xB_l ⟨_, zs_iconst (v := 0) em186_1 (by decide +kernel), as_const (by decide +kernel)⟩) (xB_l ⟨_, zs_sipush (v := 255) em186_2 (by decide +kernel), as_const (by decide +kernel)⟩))) (xB_n (xB_l ⟨_, zs_invS em186_5 zl_165 wd_1629 wd_1630 ((congrFun xo_12 324).trans rfl) xm_148, ag_inv H zh_165 hd (by decide)⟩) (xB_n (xB_l ⟨_, zs_ifne em186_8 (t := 13) (by decide), as_if⟩) (xB_l ⟨_, zs_iconst (v := (-1)) em186_11 (by decide +kernel), as_const (by decide +kernel)⟩)))) (xB_n (xB_n (xB_l ⟨_, zs_aload_n em186_13, as_aload⟩) (xB_n (xB_l ⟨_, zs_invV (T := TX12) em186_14 zl_136 rfl wd_1635 wd_1637 wd_73 ((congrFun xo_12 411).trans rfl) xm_129, ag_invV H zh_136 hd (by decide)⟩) (xB_l ⟨_, zs_aload_n em186_17, as_aload⟩))) (xB_n (xB_l ⟨_, zs_invV (T := TX12) em186_18 zl_199 rfl wd_1798 wd_1800 wd_100 ((congrFun xo_12 436).trans rfl) xm_172, ag_invV H zh_199 hd (by decide)⟩) (xB_n (xB_l ⟨_, zs_istore_n em186_21, as_istore⟩) (xB_l ⟨_, zs_iconst (v := 0) em186_22 (by decide +kernel), as_const (by decide +kernel)⟩))))) (xB_n (xB_n (xB_n (xB_l ⟨_, zs_istore_n em186_23, as_istore⟩) (xB_n (xB_l ⟨_, zs_iload_n em186_24, as_iload⟩) (xB_l ⟨_, zs_aload_n em186_25, as_aload⟩))) (xB_n (xB_l ⟨_, zs_getf (T := TX12) (M := 70) (ci := 12) (j := 4) em186_26 rfl inX12 (by decide) wd_1305 ((congrFun xo_12 49).trans rfl), as_getf zTie⟩) (xB_n (xB_l ⟨_, zs_aload_n em186_29, as_aload⟩) (xB_l ⟨_, zs_getf (T := TX12) (M := 70) (ci := 12) (j := 2) em186_30 rfl inX12 (by decide) wd_1299 ((congrFun xo_12 230).trans rfl), as_getf zTie⟩)))) (xB_n (xB_n (xB_l ⟨_, zs_iald em186_33, ag_iald⟩) (xB_n (xB_l ⟨_, zs_icmpge em186_34 (t := 87) (by decide), as_icmp⟩) (xB_l ⟨_, zs_iconst (v := 0) em186_37 (by decide +kernel), as_const (by decide +kernel)⟩))) (xB_n (xB_n (xB_l ⟨_, zs_istore em186_38, as_istore⟩) (xB_l ⟨_, zs_iload em186_40, as_iload⟩)) (xB_n (xB_l ⟨_, zs_bipush (v := 8) em186_42 (by decide +kernel), as_const (by decide +kernel)⟩) (xB_l ⟨_, zs_icmpge em186_44 (t := 81) (by decide), as_icmp⟩)))))) (xB_n (xB_n (xB_n (xB_n (xB_l ⟨_, zs_iload_n em186_47, as_iload⟩) (xB_n (xB_l ⟨_, zs_iload em186_48, as_iload⟩) (xB_l ⟨_, zs_ishr em186_50, as_bin fany_ok⟩))) (xB_n (xB_l ⟨_, zs_iconst (v := 1) em186_51 (by decide +kernel), as_const (by decide +kernel)⟩) (xB_n (xB_l ⟨_, zs_iand em186_52, as_bin fand_ok⟩) (xB_l ⟨_, zs_iconst (v := 1) em186_53 (by decide +kernel), as_const (by decide +kernel)⟩)))) (xB_n (xB_n (xB_l ⟨_, zs_icmpne em186_54 (t := 75) (by decide), as_icmp⟩) (xB_n (xB_l ⟨_, zs_aload_n em186_57, as_aload⟩) (xB_l ⟨_, zs_iload_n em186_58, as_iload⟩))) (xB_n (xB_l ⟨_, zs_iload em186_59, as_iload⟩) (xB_n (xB_l ⟨_, zs_invV (T := TX12) em186_61 zl_198 rfl wd_1830 wd_1832 wd_104 ((congrFun xo_12 457).trans rfl) xm_171, ag_invV H zh_198 hd (by decide)⟩) (xB_l ⟨_, zs_ifle em186_64 (t := 75) (by decide), as_if⟩))))) (xB_n (xB_n (xB_n (xB_l ⟨_, zs_iload_n em186_67, as_iload⟩) (xB_n (xB_l ⟨_, zs_iconst (v := 1) em186_68 (by decide +kernel), as_const (by decide +kernel)⟩) (xB_l ⟨_, zs_iload_n em186_69, as_iload⟩))) (xB_n (xB_l ⟨_, zs_ishl em186_70, as_bin fshl_ok⟩) (xB_n (xB_l ⟨_, zs_iconst (v := (-1)) em186_71 (by decide +kernel), as_const (by decide +kernel)⟩) (xB_l ⟨_, zs_ixor em186_72, as_bin fany_ok⟩)))) (xB_n (xB_n (xB_l ⟨_, zs_iand em186_73, as_bin fand_ok⟩) (xB_n (xB_l ⟨_, zs_istore_n em186_74, as_istore⟩) (xB_l ⟨_, zs_iinc (k := 1) em186_75 (by decide +kernel), as_iinc (by decide +kernel)⟩))) (xB_n (xB_n (xB_l ⟨_, zs_goto em186_78 (t := 40) (by decide), as_goto⟩) (xB_l ⟨_, zs_iinc (k := 1) em186_81 (by decide +kernel), as_iinc (by decide +kernel)⟩)) (xB_n (xB_l ⟨_, zs_goto em186_84 (t := 24) (by decide), as_goto⟩) (xB_l ⟨_, zs_iload_n em186_87, as_iload⟩)))))))
set_option maxRecDepth 100000 in
set_option maxHeartbeats 4000000 in
theorem zM_213 : zOKa 213 zc_213 := z_auto (cuts := [(24, ([(0, 0), (0, 255), (0, 1), ((-2147483648), 2147483647), (0, 7)], [], [some (.inr (.inl (0, 75))), some (.inl (1, 0)), some (.inl (3, 0)), some (.inl (4, 0)), none], [], [(22, 2, 0)], (0, 0)), [(0, 2), (0, 3)], 79, [0, 0, 0, 0, (-10)]), (40, ([(0, 0), (0, 255), (0, 1), ((-2147483648), 2147483647), (0, 6), (0, 8)], [], [some (.inr (.inl (0, 75))), some (.inl (1, 0)), some (.inl (3, 0)), some (.inl (4, 0)), some (.inl (5, 0))], [], [(22, 2, 0)], (0, 0)), [(0, 2), (0, 3), (0, 4)], 78, [0, 0, 0, 0, (-10), (-1)])]) (rets := [(12, 1), (88, 1)]) (fuel := 1000) rfl rfl (by decide) (xrt_ok (xR_c (Or.inl ⟨rfl, em186_12, rfl⟩) (xR_c (Or.inl ⟨rfl, em186_88, rfl⟩) (xR_n)))) (fun _ _ H _ hd => zTo_213 H hd) (by decide +kernel)
theorem em187_0 : decode prog_14_method_113_code 0 = .ok (.iconst 0, 1) := by decide +kernel
theorem em187_1 : decode prog_14_method_113_code 1 = .ok (.istore_n 3, 1) := by decide +kernel
theorem em187_2 : decode prog_14_method_113_code 2 = .ok (.iload_n 1, 1) := by decide +kernel
theorem em187_3 : decode prog_14_method_113_code 3 = .ok (.istore 4, 2) := by decide +kernel
theorem em187_5 : decode prog_14_method_113_code 5 = .ok (.iload 4, 2) := by decide +kernel
theorem em187_7 : decode prog_14_method_113_code 7 = .ok (.iload_n 1, 1) := by decide +kernel
theorem em187_8 : decode prog_14_method_113_code 8 = .ok (.iload_n 2, 1) := by decide +kernel
theorem em187_9 : decode prog_14_method_113_code 9 = .ok (.iadd, 1) := by decide +kernel
theorem em187_10 : decode prog_14_method_113_code 10 = .ok (.if_icmp .ge 19, 3) := by decide +kernel
theorem em187_13 : decode prog_14_method_113_code 13 = .ok (.iload_n 3, 1) := by decide +kernel
theorem em187_14 : decode prog_14_method_113_code 14 = .ok (.aload_n 0, 1) := by decide +kernel
theorem em187_15 : decode prog_14_method_113_code 15 = .ok (.getfield 113, 3) := by decide +kernel
theorem em187_18 : decode prog_14_method_113_code 18 = .ok (.iload 4, 2) := by decide +kernel
theorem em187_20 : decode prog_14_method_113_code 20 = .ok (.iaload, 1) := by decide +kernel
theorem em187_21 : decode prog_14_method_113_code 21 = .ok (.iadd, 1) := by decide +kernel
theorem em187_22 : decode prog_14_method_113_code 22 = .ok (.istore_n 3, 1) := by decide +kernel
theorem em187_23 : decode prog_14_method_113_code 23 = .ok (.iinc 4 1, 3) := by decide +kernel
theorem em187_26 : decode prog_14_method_113_code 26 = .ok (.goto (-21), 3) := by decide +kernel
theorem em187_29 : decode prog_14_method_113_code 29 = .ok (.iload_n 3, 1) := by decide +kernel
theorem em187_30 : decode prog_14_method_113_code 30 = .ok (.ireturn, 1) := by decide +kernel
/-! CapitalCaseModel.sumNow:(II)I -/
noncomputable def zTr_214 : Nat → Option aF := bn 13 (bn 5 (bn 2 (bn 1 (bl 0 (a_const 0 1)) (bl 1 (a_istore 3 2))) (bn 3 (bl 2 (a_iload 1 3)) (bl 3 (a_istore 4 5)))) (bn 8 (bn 7 (bl 5 (a_iload 4 7)) (bl 7 (a_iload 1 8))) (bn 9 (bl 8 (a_iload 2 9)) (bn 10 (bl 9 (a_bin fadd 10)) (bl 10 (a_icmp 3 29 13)))))) (bn 21 (bn 15 (bn 14 (bl 13 (a_iload 3 14)) (bl 14 (a_aload 0 15))) (bn 18 (bl 15 (a_getf zG0 zT0 12 1 18)) (bn 20 (bl 18 (a_iload 4 20)) (bl 20 (a_ald zG0 zT0 (false, false) ts0 21))))) (bn 23 (bn 22 (bl 21 (a_bin fadd 22)) (bl 22 (a_istore 3 23))) (bn 26 (bl 23 (a_iinc 4 1 26)) (bn 29 (bl 26 (a_goto 5)) (bl 29 (a_iload 3 30))))))
set_option maxRecDepth 100000 in
set_option maxHeartbeats 4000000 in
theorem zTo_214 {pre : zPre} {post : zPost} (H : zTieC pre post) {d : Nat × Nat × Nat} (hd : zLe (0, 0, 0) d) : aTr zG0 zT0 zInv (false, false) PZ zbd pre post d prog_14_method_113_code "CapitalCaseModel" zTr_214 := (xB_n (xB_n (xB_n (xB_n (xB_l ⟨_, zs_iconst (v := 0) em187_0 (by decide +kernel), as_const (by decide +kernel)⟩) (xB_l ⟨_, zs_istore_n em187_1, as_istore⟩)) (xB_n (xB_l ⟨_, zs_iload_n em187_2, as_iload⟩) (xB_l ⟨_, zs_istore em187_3, as_istore⟩))) (xB_n (xB_n (xB_l ⟨_, zs_iload em187_5, as_iload⟩) (xB_l ⟨_, zs_iload_n em187_7, as_iload⟩)) (xB_n (xB_l ⟨_, zs_iload_n em187_8, as_iload⟩) (xB_n (xB_l ⟨_, zs_iadd em187_9, as_bin fadd_ok⟩) (xB_l ⟨_, zs_icmpge em187_10 (t := 29) (by decide), as_icmp⟩))))) (xB_n (xB_n (xB_n (xB_l ⟨_, zs_iload_n em187_13, as_iload⟩) (xB_l ⟨_, zs_aload_n em187_14, as_aload⟩)) (xB_n (xB_l ⟨_, zs_getf (T := TX12) (M := 70) (ci := 12) (j := 1) em187_15 rfl inX12 (by decide) wd_1331 ((congrFun xo_12 113).trans rfl), as_getf zTie⟩) (xB_n (xB_l ⟨_, zs_iload em187_18, as_iload⟩) (xB_l ⟨_, zs_iald em187_20, ag_iald⟩)))) (xB_n (xB_n (xB_l ⟨_, zs_iadd em187_21, as_bin fadd_ok⟩) (xB_l ⟨_, zs_istore_n em187_22, as_istore⟩)) (xB_n (xB_l ⟨_, zs_iinc (k := 1) em187_23 (by decide +kernel), as_iinc (by decide +kernel)⟩) (xB_n (xB_l ⟨_, zs_goto em187_26 (t := 5) (by decide), as_goto⟩) (xB_l ⟨_, zs_iload_n em187_29, as_iload⟩))))))
set_option maxRecDepth 100000 in
set_option maxHeartbeats 4000000 in
theorem zM_214 : zOKa 214 zc_214 := z_auto (cuts := [(5, ([(0, 0), (0, 120), (40, 200), ((-2147483648), 2147483647), (0, 320)], [], [some (.inr (.inl (0, 75))), some (.inl (1, 0)), some (.inl (2, 0)), some (.inl (3, 0)), some (.inl (4, 0))], [], [], (0, 0)), [(0, 3), (0, 4)], 320, [0, 0, 0, 0, (-1)])]) (rets := [(30, 1)]) (fuel := 1000) rfl rfl (by decide) (xrt_ok (xR_c (Or.inl ⟨rfl, em187_30, rfl⟩) (xR_n))) (fun _ _ H _ hd => zTo_214 H hd) (by decide +kernel)
theorem em188_0 : decode prog_14_method_106_code 0 = .ok (.aload_n 0, 1) := by decide +kernel
theorem em188_1 : decode prog_14_method_106_code 1 = .ok (.getfield 251, 3) := by decide +kernel
theorem em188_4 : decode prog_14_method_106_code 4 = .ok (.bipush 20, 2) := by decide +kernel
theorem em188_6 : decode prog_14_method_106_code 6 = .ok (.if_icmp .eq 21, 3) := by decide +kernel
theorem em188_9 : decode prog_14_method_106_code 9 = .ok (.iload_n 1, 1) := by decide +kernel
theorem em188_10 : decode prog_14_method_106_code 10 = .ok (.invokestatic 408, 3) := by decide +kernel
theorem em188_13 : decode prog_14_method_106_code 13 = .ok (.ifCond .eq 14, 3) := by decide +kernel
theorem em188_16 : decode prog_14_method_106_code 16 = .ok (.iload_n 2, 1) := by decide +kernel
theorem em188_17 : decode prog_14_method_106_code 17 = .ok (.iconst 0, 1) := by decide +kernel
theorem em188_18 : decode prog_14_method_106_code 18 = .ok (.sipush 999, 3) := by decide +kernel
theorem em188_21 : decode prog_14_method_106_code 21 = .ok (.invokestatic 324, 3) := by decide +kernel
theorem em188_24 : decode prog_14_method_106_code 24 = .ok (.ifCond .ne 5, 3) := by decide +kernel
theorem em188_27 : decode prog_14_method_106_code 27 = .ok (.iconst (-1), 1) := by decide +kernel
theorem em188_28 : decode prog_14_method_106_code 28 = .ok (.ireturn, 1) := by decide +kernel
theorem em188_29 : decode prog_14_method_106_code 29 = .ok (.aload_n 0, 1) := by decide +kernel
theorem em188_30 : decode prog_14_method_106_code 30 = .ok (.getfield 134, 3) := by decide +kernel
theorem em188_33 : decode prog_14_method_106_code 33 = .ok (.aload_n 0, 1) := by decide +kernel
theorem em188_34 : decode prog_14_method_106_code 34 = .ok (.getfield 251, 3) := by decide +kernel
theorem em188_37 : decode prog_14_method_106_code 37 = .ok (.iload_n 1, 1) := by decide +kernel
theorem em188_38 : decode prog_14_method_106_code 38 = .ok (.iastore, 1) := by decide +kernel
theorem em188_39 : decode prog_14_method_106_code 39 = .ok (.aload_n 0, 1) := by decide +kernel
theorem em188_40 : decode prog_14_method_106_code 40 = .ok (.getfield 137, 3) := by decide +kernel
theorem em188_43 : decode prog_14_method_106_code 43 = .ok (.aload_n 0, 1) := by decide +kernel
theorem em188_44 : decode prog_14_method_106_code 44 = .ok (.getfield 251, 3) := by decide +kernel
theorem em188_47 : decode prog_14_method_106_code 47 = .ok (.iload_n 2, 1) := by decide +kernel
theorem em188_48 : decode prog_14_method_106_code 48 = .ok (.iastore, 1) := by decide +kernel
theorem em188_49 : decode prog_14_method_106_code 49 = .ok (.aload_n 0, 1) := by decide +kernel
theorem em188_50 : decode prog_14_method_106_code 50 = .ok (.getfield 140, 3) := by decide +kernel
theorem em188_53 : decode prog_14_method_106_code 53 = .ok (.aload_n 0, 1) := by decide +kernel
theorem em188_54 : decode prog_14_method_106_code 54 = .ok (.getfield 251, 3) := by decide +kernel
theorem em188_57 : decode prog_14_method_106_code 57 = .ok (.iload_n 3, 1) := by decide +kernel
theorem em188_58 : decode prog_14_method_106_code 58 = .ok (.bastore, 1) := by decide +kernel
theorem em188_59 : decode prog_14_method_106_code 59 = .ok (.aload_n 0, 1) := by decide +kernel
theorem em188_60 : decode prog_14_method_106_code 60 = .ok (.dup, 1) := by decide +kernel
theorem em188_61 : decode prog_14_method_106_code 61 = .ok (.getfield 251, 3) := by decide +kernel
theorem em188_64 : decode prog_14_method_106_code 64 = .ok (.iconst 1, 1) := by decide +kernel
theorem em188_65 : decode prog_14_method_106_code 65 = .ok (.iadd, 1) := by decide +kernel
theorem em188_66 : decode prog_14_method_106_code 66 = .ok (.putfield 251, 3) := by decide +kernel
theorem em188_69 : decode prog_14_method_106_code 69 = .ok (.aload_n 0, 1) := by decide +kernel
theorem em188_70 : decode prog_14_method_106_code 70 = .ok (.getfield 251, 3) := by decide +kernel
theorem em188_73 : decode prog_14_method_106_code 73 = .ok (.iconst 1, 1) := by decide +kernel
theorem em188_74 : decode prog_14_method_106_code 74 = .ok (.isub, 1) := by decide +kernel
theorem em188_75 : decode prog_14_method_106_code 75 = .ok (.ireturn, 1) := by decide +kernel
/-! CapitalCaseModel.tell:(IIZ)I -/
noncomputable def zTr_215 : Nat → Option aF := bn 40 (bn 21 (bn 10 (bn 4 (bn 1 (bl 0 (a_aload 0 1)) (bl 1 (a_getf zG0 zT0 12 64 4))) (bn 6 (bl 4 (a_const 20 6)) (bn 9 (bl 6 (a_icmp 0 27 9)) (bl 9 (a_iload 1 10))))) (bn 16 (bn 13 (bl 10 (a_inv zG0 zprot (false, false) zc_180 (zbd 180) (2, 0, 0) 1 13)) (bl 13 (a_if 0 27 16))) (bn 17 (bl 16 (a_iload 2 17)) (bn 18 (bl 17 (a_const 0 18)) (bl 18 (a_const 999 21)))))) (bn 33 (bn 27 (bn 24 (bl 21 (a_inv zG0 zprot (false, false) zc_166 (zbd 166) (2, 0, 0) 3 24)) (bl 24 (a_if 1 29 27))) (bn 29 (bl 27 (a_const (-1) 28)) (bn 30 (bl 29 (a_aload 0 30)) (bl 30 (a_getf zG0 zT0 12 65 33))))) (bn 37 (bn 34 (bl 33 (a_aload 0 34)) (bl 34 (a_getf zG0 zT0 12 64 37))) (bn 38 (bl 37 (a_iload 1 38)) (bn 39 (bl 38 (a_ast zG0 zT0 ts0 39)) (bl 39 (a_aload 0 40))))))) (bn 58 (bn 49 (bn 44 (bn 43 (bl 40 (a_getf zG0 zT0 12 66 43)) (bl 43 (a_aload 0 44))) (bn 47 (bl 44 (a_getf zG0 zT0 12 64 47)) (bn 48 (bl 47 (a_iload 2 48)) (bl 48 (a_ast zG0 zT0 ts0 49))))) (bn 53 (bn 50 (bl 49 (a_aload 0 50)) (bl 50 (a_getf zG0 zT0 12 67 53))) (bn 54 (bl 53 (a_aload 0 54)) (bn 57 (bl 54 (a_getf zG0 zT0 12 64 57)) (bl 57 (a_iload 3 58)))))) (bn 65 (bn 60 (bn 59 (bl 58 (a_ast zG0 zT0 ts12 59)) (bl 59 (a_aload 0 60))) (bn 61 (bl 60 (a_dup 61)) (bn 64 (bl 61 (a_getf zG0 zT0 12 64 64)) (bl 64 (a_const 1 65))))) (bn 70 (bn 66 (bl 65 (a_bin fadd 66)) (bn 69 (bl 66 (a_puti zG0 zT0 zprot 12 64 0 69)) (bl 69 (a_aload 0 70)))) (bn 73 (bl 70 (a_getf zG0 zT0 12 64 73)) (bn 74 (bl 73 (a_const 1 74)) (bl 74 (a_bin fsub 75)))))))
set_option maxRecDepth 100000 in
set_option maxHeartbeats 4000000 in
theorem zTo_215 {pre : zPre} {post : zPost} (H : zTieC pre post) {d : Nat × Nat × Nat} (hd : zLe (2, 0, 0) d) : aTr zG0 zT0 zInv (false, false) PZ zbd pre post d prog_14_method_106_code "CapitalCaseModel" zTr_215 := (xB_n (xB_n (xB_n (xB_n (xB_n (xB_l ⟨_, zs_aload_n em188_0, as_aload⟩) (xB_l ⟨_, zs_getf (T := TX12) (M := 70) (ci := 12) (j := 64) em188_1 rfl inX12 (by decide) wd_1345 ((congrFun xo_12 251).trans rfl), as_getf zTie⟩)) (xB_n (xB_l ⟨_, zs_bipush (v := 20) em188_4 (by decide +kernel), as_const (by decide +kernel)⟩) (xB_n (xB_l ⟨_, zs_icmpeq em188_6 (t := 27) (by decide), as_icmp⟩) (xB_l ⟨_, zs_iload_n em188_9, as_iload⟩)))) (xB_n (xB_n (xB_l ⟨_, zs_invS em188_10 zl_180 wd_1632 wd_1633 ((congrFun xo_12 408).trans rfl) xm_154, ag_inv H zh_180 hd (by decide)⟩) (xB_l ⟨_, zs_ifeq em188_13 (t := 27) (by decide), as_if⟩)) (xB_n (xB_l ⟨_, zs_iload_n em188_16, as_iload⟩) (xB_n (xB_l ⟨_, zs_iconst (v := 0) em188_17 (by decide +kernel), as_const (by decide +kernel)⟩) (xB_l ⟨_, zs_sipush (v := 999) em188_18 (by decide +kernel), as_const (by decide +kernel)⟩))))) (xB_n (xB_n (xB_n (xB_l ⟨_, zs_invS em188_21 zl_166 wd_1629 wd_1630 ((congrFun xo_12 324).trans rfl) xm_148, ag_inv H zh_166 hd (by decide)⟩) (xB_l ⟨_, zs_ifne em188_24 (t := 29) (by decide), as_if⟩)) (xB_n (xB_l ⟨_, zs_iconst (v := (-1)) em188_27 (by decide +kernel), as_const (by decide +kernel)⟩) (xB_n (xB_l ⟨_, zs_aload_n em188_29, as_aload⟩) (xB_l ⟨_, zs_getf (T := TX12) (M := 70) (ci := 12) (j := 65) em188_30 rfl inX12 (by decide) wd_1346 ((congrFun xo_12 134).trans rfl), as_getf zTie⟩)))) (xB_n (xB_n (xB_l ⟨_, zs_aload_n em188_33, as_aload⟩) (xB_l ⟨_, zs_getf (T := TX12) (M := 70) (ci := 12) (j := 64) em188_34 rfl inX12 (by decide) wd_1345 ((congrFun xo_12 251).trans rfl), as_getf zTie⟩)) (xB_n (xB_l ⟨_, zs_iload_n em188_37, as_iload⟩) (xB_n (xB_l ⟨_, zs_iast zInj0 em188_38, as_iast zTie⟩) (xB_l ⟨_, zs_aload_n em188_39, as_aload⟩)))))) (xB_n (xB_n (xB_n (xB_n (xB_l ⟨_, zs_getf (T := TX12) (M := 70) (ci := 12) (j := 66) em188_40 rfl inX12 (by decide) wd_1347 ((congrFun xo_12 137).trans rfl), as_getf zTie⟩) (xB_l ⟨_, zs_aload_n em188_43, as_aload⟩)) (xB_n (xB_l ⟨_, zs_getf (T := TX12) (M := 70) (ci := 12) (j := 64) em188_44 rfl inX12 (by decide) wd_1345 ((congrFun xo_12 251).trans rfl), as_getf zTie⟩) (xB_n (xB_l ⟨_, zs_iload_n em188_47, as_iload⟩) (xB_l ⟨_, zs_iast zInj0 em188_48, as_iast zTie⟩)))) (xB_n (xB_n (xB_l ⟨_, zs_aload_n em188_49, as_aload⟩) (xB_l ⟨_, zs_getf (T := TX12) (M := 70) (ci := 12) (j := 67) em188_50 rfl inX12 (by decide) wd_1348 ((congrFun xo_12 140).trans rfl), as_getf zTie⟩)) (xB_n (xB_l ⟨_, zs_aload_n em188_53, as_aload⟩) (xB_n (xB_l ⟨_, zs_getf (T := TX12) (M := 70) (ci := 12) (j := 64) em188_54 rfl inX12 (by decide) wd_1345 ((congrFun xo_12 251).trans rfl), as_getf zTie⟩) (xB_l ⟨_, zs_iload_n em188_57, as_iload⟩))))) (xB_n (xB_n (xB_n (xB_l ⟨_, zs_bast zInj0 em188_58, as_bast zTie⟩) (xB_l ⟨_, zs_aload_n em188_59, as_aload⟩)) (xB_n (xB_l ⟨_, zs_dup em188_60, as_dup⟩) (xB_n (xB_l ⟨_, zs_getf (T := TX12) (M := 70) (ci := 12) (j := 64) em188_61 rfl inX12 (by decide) wd_1345 ((congrFun xo_12 251).trans rfl), as_getf zTie⟩) (xB_l ⟨_, zs_iconst (v := 1) em188_64 (by decide +kernel), as_const (by decide +kernel)⟩)))) (xB_n (xB_n (xB_l ⟨_, zs_iadd em188_65, as_bin fadd_ok⟩) (xB_n (xB_l ⟨_, zs_puti zInj0 (T := TX12) (M := 70) (ty := tyX12) (ci := 12) (j := 64) (kd := 0) em188_66 rfl inX12 tyX12_ok nmX12 (by decide) wd_1345 (Or.inl ⟨rfl, rfl⟩) rfl ((congrFun xo_12 251).trans rfl), ag_puti0⟩) (xB_l ⟨_, zs_aload_n em188_69, as_aload⟩))) (xB_n (xB_l ⟨_, zs_getf (T := TX12) (M := 70) (ci := 12) (j := 64) em188_70 rfl inX12 (by decide) wd_1345 ((congrFun xo_12 251).trans rfl), as_getf zTie⟩) (xB_n (xB_l ⟨_, zs_iconst (v := 1) em188_73 (by decide +kernel), as_const (by decide +kernel)⟩) (xB_l ⟨_, zs_isub em188_74, as_bin fsub_ok⟩)))))))
set_option maxRecDepth 100000 in
set_option maxHeartbeats 4000000 in
theorem zM_215 : zOKa 215 zc_215 := z_auto (cuts := []) (rets := [(28, 1), (75, 1)]) (fuel := 1000) rfl rfl (by decide) (xrt_ok (xR_c (Or.inl ⟨rfl, em188_28, rfl⟩) (xR_c (Or.inl ⟨rfl, em188_75, rfl⟩) (xR_n)))) (fun _ _ H _ hd => zTo_215 H hd) (by decide +kernel)
theorem em189_0 : decode prog_14_method_75_code 0 = .ok (.aload_n 0, 1) := by decide +kernel
theorem em189_1 : decode prog_14_method_75_code 1 = .ok (.iload_n 1, 1) := by decide +kernel
theorem em189_2 : decode prog_14_method_75_code 2 = .ok (.invokevirtual 405, 3) := by decide +kernel
theorem em189_5 : decode prog_14_method_75_code 5 = .ok (.ifCond .eq 28, 3) := by decide +kernel
theorem em189_8 : decode prog_14_method_75_code 8 = .ok (.iload_n 2, 1) := by decide +kernel
theorem em189_9 : decode prog_14_method_75_code 9 = .ok (.invokestatic 408, 3) := by decide +kernel
theorem em189_12 : decode prog_14_method_75_code 12 = .ok (.ifCond .eq 21, 3) := by decide +kernel
theorem em189_15 : decode prog_14_method_75_code 15 = .ok (.aload_n 0, 1) := by decide +kernel
theorem em189_16 : decode prog_14_method_75_code 16 = .ok (.iload_n 3, 1) := by decide +kernel
theorem em189_17 : decode prog_14_method_75_code 17 = .ok (.invokevirtual 417, 3) := by decide +kernel
theorem em189_20 : decode prog_14_method_75_code 20 = .ok (.ifCond .eq 13, 3) := by decide +kernel
theorem em189_23 : decode prog_14_method_75_code 23 = .ok (.iload 4, 2) := by decide +kernel
theorem em189_25 : decode prog_14_method_75_code 25 = .ok (.iconst 0, 1) := by decide +kernel
theorem em189_26 : decode prog_14_method_75_code 26 = .ok (.iconst 1, 1) := by decide +kernel
theorem em189_27 : decode prog_14_method_75_code 27 = .ok (.invokestatic 324, 3) := by decide +kernel
theorem em189_30 : decode prog_14_method_75_code 30 = .ok (.ifCond .ne 7, 3) := by decide +kernel
theorem em189_33 : decode prog_14_method_75_code 33 = .ok (.ldc_w 420, 3) := by decide +kernel
theorem em189_36 : decode prog_14_method_75_code 36 = .ok (.ireturn, 1) := by decide +kernel
theorem em189_37 : decode prog_14_method_75_code 37 = .ok (.aload_n 0, 1) := by decide +kernel
theorem em189_38 : decode prog_14_method_75_code 38 = .ok (.invokevirtual 411, 3) := by decide +kernel
theorem em189_41 : decode prog_14_method_75_code 41 = .ok (.iload 4, 2) := by decide +kernel
theorem em189_43 : decode prog_14_method_75_code 43 = .ok (.iconst 1, 1) := by decide +kernel
theorem em189_44 : decode prog_14_method_75_code 44 = .ok (.if_icmp .ne 11, 3) := by decide +kernel
theorem em189_47 : decode prog_14_method_75_code 47 = .ok (.aload_n 0, 1) := by decide +kernel
theorem em189_48 : decode prog_14_method_75_code 48 = .ok (.iload_n 1, 1) := by decide +kernel
theorem em189_49 : decode prog_14_method_75_code 49 = .ok (.iload_n 2, 1) := by decide +kernel
theorem em189_50 : decode prog_14_method_75_code 50 = .ok (.iload_n 3, 1) := by decide +kernel
theorem em189_51 : decode prog_14_method_75_code 51 = .ok (.invokevirtual 374, 3) := by decide +kernel
theorem em189_54 : decode prog_14_method_75_code 54 = .ok (.ireturn, 1) := by decide +kernel
theorem em189_55 : decode prog_14_method_75_code 55 = .ok (.aload_n 0, 1) := by decide +kernel
theorem em189_56 : decode prog_14_method_75_code 56 = .ok (.iload_n 1, 1) := by decide +kernel
theorem em189_57 : decode prog_14_method_75_code 57 = .ok (.iload_n 2, 1) := by decide +kernel
theorem em189_58 : decode prog_14_method_75_code 58 = .ok (.iload_n 3, 1) := by decide +kernel
theorem em189_59 : decode prog_14_method_75_code 59 = .ok (.invokevirtual 371, 3) := by decide +kernel
theorem em189_62 : decode prog_14_method_75_code 62 = .ok (.ifCond .eq 7, 3) := by decide +kernel
theorem em189_65 : decode prog_14_method_75_code 65 = .ok (.iconst 1, 1) := by decide +kernel
theorem em189_66 : decode prog_14_method_75_code 66 = .ok (.goto 4, 3) := by decide +kernel
theorem em189_69 : decode prog_14_method_75_code 69 = .ok (.iconst 0, 1) := by decide +kernel
theorem em189_70 : decode prog_14_method_75_code 70 = .ok (.ireturn, 1) := by decide +kernel
/-! CapitalCaseModel.tells:(IIII)I -/
noncomputable def zTr_216 : Nat → Option aF := bn 38 (bn 17 (bn 8 (bn 2 (bn 1 (bl 0 (a_aload 0 1)) (bl 1 (a_iload 1 2))) (bn 5 (bl 2 (a_invV zG0 zprot (true, false) zc_177 (zbd 177) (7, 0, 0) 12 2 5)) (bl 5 (a_if 0 33 8)))) (bn 12 (bn 9 (bl 8 (a_iload 2 9)) (bl 9 (a_inv zG0 zprot (true, false) zc_180 (zbd 180) (7, 0, 0) 1 12))) (bn 15 (bl 12 (a_if 0 33 15)) (bn 16 (bl 15 (a_aload 0 16)) (bl 16 (a_iload 3 17)))))) (bn 26 (bn 23 (bn 20 (bl 17 (a_invV zG0 zprot (true, false) zc_181 (zbd 181) (7, 0, 0) 12 2 20)) (bl 20 (a_if 0 33 23))) (bn 25 (bl 23 (a_iload 4 25)) (bl 25 (a_const 0 26)))) (bn 30 (bn 27 (bl 26 (a_const 1 27)) (bl 27 (a_inv zG0 zprot (true, false) zc_167 (zbd 167) (7, 0, 0) 3 30))) (bn 33 (bl 30 (a_if 1 37 33)) (bn 37 (bl 33 (a_const (-1000000000) 36)) (bl 37 (a_aload 0 38))))))) (bn 55 (bn 47 (bn 43 (bn 41 (bl 38 (a_invV zG0 zprot (true, false) zc_136 (zbd 136) (7, 0, 0) 12 1 41)) (bl 41 (a_iload 4 43))) (bn 44 (bl 43 (a_const 1 44)) (bl 44 (a_icmp 1 55 47)))) (bn 49 (bn 48 (bl 47 (a_aload 0 48)) (bl 48 (a_iload 1 49))) (bn 50 (bl 49 (a_iload 2 50)) (bn 51 (bl 50 (a_iload 3 51)) (bl 51 (a_invV zG0 zprot (true, false) zc_206 (zbd 206) (7, 0, 0) 12 4 54)))))) (bn 59 (bn 57 (bn 56 (bl 55 (a_aload 0 56)) (bl 56 (a_iload 1 57))) (bn 58 (bl 57 (a_iload 2 58)) (bl 58 (a_iload 3 59)))) (bn 65 (bn 62 (bl 59 (a_invV zG0 zprot (true, false) zc_149 (zbd 149) (7, 0, 0) 12 4 62)) (bl 62 (a_if 0 69 65))) (bn 66 (bl 65 (a_const 1 66)) (bn 69 (bl 66 (a_goto 70)) (bl 69 (a_const 0 70)))))))
set_option maxRecDepth 100000 in
set_option maxHeartbeats 4000000 in
theorem zTo_216 {pre : zPre} {post : zPost} (H : zTieC pre post) {d : Nat × Nat × Nat} (hd : zLe (7, 0, 0) d) : aTr zG0 zT0 zInv (true, false) PZ zbd pre post d prog_14_method_75_code "CapitalCaseModel" zTr_216 := (xB_n (xB_n (xB_n (xB_n (xB_n (xB_l ⟨_, zs_aload_n em189_0, as_aload⟩) (xB_l ⟨_, zs_iload_n em189_1, as_iload⟩)) (xB_n (xB_l ⟨_, zs_invV (T := TX12) em189_2 zl_177 rfl wd_1625 wd_1627 wd_72 ((congrFun xo_12 405).trans rfl) xm_151, ag_invV H zh_177 hd (by decide)⟩) (xB_l ⟨_, zs_ifeq em189_5 (t := 33) (by decide), as_if⟩))) (xB_n (xB_n (xB_l ⟨_, zs_iload_n em189_8, as_iload⟩) (xB_l ⟨_, zs_invS em189_9 zl_180 wd_1632 wd_1633 ((congrFun xo_12 408).trans rfl) xm_154, ag_inv H zh_180 hd (by decide)⟩)) (xB_n (xB_l ⟨_, zs_ifeq em189_12 (t := 33) (by decide), as_if⟩) (xB_n (xB_l ⟨_, zs_aload_n em189_15, as_aload⟩) (xB_l ⟨_, zs_iload_n em189_16, as_iload⟩))))) (xB_n (xB_n (xB_n (xB_l ⟨_, zs_invV (T := TX12) em189_17 zl_181 rfl wd_1678 wd_1680 wd_82 ((congrFun xo_12 417).trans rfl) xm_155, ag_invV H zh_181 hd (by decide)⟩) (xB_l ⟨_, zs_ifeq em189_20 (t := 33) (by decide), as_if⟩)) (xB_n (xB_l ⟨_, zs_iload em189_23, as_iload⟩) (xB_l ⟨_, zs_iconst (v := 0) em189_25 (by decide +kernel), as_const (by decide +kernel)⟩))) (xB_n (xB_n (xB_l ⟨_, zs_iconst (v := 1) em189_26 (by decide +kernel), as_const (by decide +kernel)⟩) (xB_l ⟨_, zs_invS em189_27 zl_167 wd_1629 wd_1630 ((congrFun xo_12 324).trans rfl) xm_148, ag_inv H zh_167 hd (by decide)⟩)) (xB_n (xB_l ⟨_, zs_ifne em189_30 (t := 37) (by decide), as_if⟩) (xB_n (xB_l ⟨_, zs_ldcw (v := (-1000000000)) em189_33 wd_1698 ((congrFun xo_12 420).trans (by decide +kernel)), as_const (by decide +kernel)⟩) (xB_l ⟨_, zs_aload_n em189_37, as_aload⟩)))))) (xB_n (xB_n (xB_n (xB_n (xB_l ⟨_, zs_invV (T := TX12) em189_38 zl_136 rfl wd_1635 wd_1637 wd_73 ((congrFun xo_12 411).trans rfl) xm_129, ag_invV H zh_136 hd (by decide)⟩) (xB_l ⟨_, zs_iload em189_41, as_iload⟩)) (xB_n (xB_l ⟨_, zs_iconst (v := 1) em189_43 (by decide +kernel), as_const (by decide +kernel)⟩) (xB_l ⟨_, zs_icmpne em189_44 (t := 55) (by decide), as_icmp⟩))) (xB_n (xB_n (xB_l ⟨_, zs_aload_n em189_47, as_aload⟩) (xB_l ⟨_, zs_iload_n em189_48, as_iload⟩)) (xB_n (xB_l ⟨_, zs_iload_n em189_49, as_iload⟩) (xB_n (xB_l ⟨_, zs_iload_n em189_50, as_iload⟩) (xB_l ⟨_, zs_invV (T := TX12) em189_51 zl_206 rfl wd_1699 wd_1701 wd_85 ((congrFun xo_12 374).trans rfl) xm_179, ag_invV H zh_206 hd (by decide)⟩))))) (xB_n (xB_n (xB_n (xB_l ⟨_, zs_aload_n em189_55, as_aload⟩) (xB_l ⟨_, zs_iload_n em189_56, as_iload⟩)) (xB_n (xB_l ⟨_, zs_iload_n em189_57, as_iload⟩) (xB_l ⟨_, zs_iload_n em189_58, as_iload⟩))) (xB_n (xB_n (xB_l ⟨_, zs_invV (T := TX12) em189_59 zl_149 rfl wd_1703 wd_1705 wd_86 ((congrFun xo_12 371).trans rfl) xm_142, ag_invV H zh_149 hd (by decide)⟩) (xB_l ⟨_, zs_ifeq em189_62 (t := 69) (by decide), as_if⟩)) (xB_n (xB_l ⟨_, zs_iconst (v := 1) em189_65 (by decide +kernel), as_const (by decide +kernel)⟩) (xB_n (xB_l ⟨_, zs_goto em189_66 (t := 70) (by decide), as_goto⟩) (xB_l ⟨_, zs_iconst (v := 0) em189_69 (by decide +kernel), as_const (by decide +kernel)⟩)))))))
set_option maxRecDepth 100000 in
set_option maxHeartbeats 4000000 in
theorem zM_216 : zOKa 216 zc_216 := z_auto (cuts := []) (rets := [(36, 1), (54, 1), (70, 1)]) (fuel := 1000) rfl rfl (by decide) (xrt_ok (xR_c (Or.inl ⟨rfl, em189_36, rfl⟩) (xR_c (Or.inl ⟨rfl, em189_54, rfl⟩) (xR_c (Or.inl ⟨rfl, em189_70, rfl⟩) (xR_n))))) (fun _ _ H _ hd => zTo_216 H hd) (by decide +kernel)
theorem em190_0 : decode prog_14_method_103_code 0 = .ok (.aload_n 0, 1) := by decide +kernel
theorem em190_1 : decode prog_14_method_103_code 1 = .ok (.iload_n 1, 1) := by decide +kernel
theorem em190_2 : decode prog_14_method_103_code 2 = .ok (.invokevirtual 405, 3) := by decide +kernel
theorem em190_5 : decode prog_14_method_103_code 5 = .ok (.ifCond .eq 27, 3) := by decide +kernel
theorem em190_8 : decode prog_14_method_103_code 8 = .ok (.iload_n 2, 1) := by decide +kernel
theorem em190_9 : decode prog_14_method_103_code 9 = .ok (.invokestatic 408, 3) := by decide +kernel
theorem em190_12 : decode prog_14_method_103_code 12 = .ok (.ifCond .eq 20, 3) := by decide +kernel
theorem em190_15 : decode prog_14_method_103_code 15 = .ok (.iload_n 3, 1) := by decide +kernel
theorem em190_16 : decode prog_14_method_103_code 16 = .ok (.invokestatic 430, 3) := by decide +kernel
theorem em190_19 : decode prog_14_method_103_code 19 = .ok (.ifCond .eq 13, 3) := by decide +kernel
theorem em190_22 : decode prog_14_method_103_code 22 = .ok (.iload 4, 2) := by decide +kernel
theorem em190_24 : decode prog_14_method_103_code 24 = .ok (.iconst 0, 1) := by decide +kernel
theorem em190_25 : decode prog_14_method_103_code 25 = .ok (.iconst 1, 1) := by decide +kernel
theorem em190_26 : decode prog_14_method_103_code 26 = .ok (.invokestatic 324, 3) := by decide +kernel
theorem em190_29 : decode prog_14_method_103_code 29 = .ok (.ifCond .ne 5, 3) := by decide +kernel
theorem em190_32 : decode prog_14_method_103_code 32 = .ok (.iconst (-1), 1) := by decide +kernel
theorem em190_33 : decode prog_14_method_103_code 33 = .ok (.ireturn, 1) := by decide +kernel
theorem em190_34 : decode prog_14_method_103_code 34 = .ok (.aload_n 0, 1) := by decide +kernel
theorem em190_35 : decode prog_14_method_103_code 35 = .ok (.invokevirtual 411, 3) := by decide +kernel
theorem em190_38 : decode prog_14_method_103_code 38 = .ok (.aload_n 0, 1) := by decide +kernel
theorem em190_39 : decode prog_14_method_103_code 39 = .ok (.iload_n 3, 1) := by decide +kernel
theorem em190_40 : decode prog_14_method_103_code 40 = .ok (.invokevirtual 433, 3) := by decide +kernel
theorem em190_43 : decode prog_14_method_103_code 43 = .ok (.aload_n 0, 1) := by decide +kernel
theorem em190_44 : decode prog_14_method_103_code 44 = .ok (.getfield 116, 3) := by decide +kernel
theorem em190_47 : decode prog_14_method_103_code 47 = .ok (.bipush 80, 2) := by decide +kernel
theorem em190_49 : decode prog_14_method_103_code 49 = .ok (.iload 4, 2) := by decide +kernel
theorem em190_51 : decode prog_14_method_103_code 51 = .ok (.imul, 1) := by decide +kernel
theorem em190_52 : decode prog_14_method_103_code 52 = .ok (.bipush 8, 2) := by decide +kernel
theorem em190_54 : decode prog_14_method_103_code 54 = .ok (.iload_n 1, 1) := by decide +kernel
theorem em190_55 : decode prog_14_method_103_code 55 = .ok (.imul, 1) := by decide +kernel
theorem em190_56 : decode prog_14_method_103_code 56 = .ok (.iadd, 1) := by decide +kernel
theorem em190_57 : decode prog_14_method_103_code 57 = .ok (.iload_n 2, 1) := by decide +kernel
theorem em190_58 : decode prog_14_method_103_code 58 = .ok (.iadd, 1) := by decide +kernel
theorem em190_59 : decode prog_14_method_103_code 59 = .ok (.iaload, 1) := by decide +kernel
theorem em190_60 : decode prog_14_method_103_code 60 = .ok (.ireturn, 1) := by decide +kernel
/-! CapitalCaseModel.then:(IIII)I -/
noncomputable def zTr_217 : Nat → Option aF := bn 34 (bn 16 (bn 8 (bn 2 (bn 1 (bl 0 (a_aload 0 1)) (bl 1 (a_iload 1 2))) (bn 5 (bl 2 (a_invV zG0 zprot (true, false) zc_177 (zbd 177) (9, 0, 0) 12 2 5)) (bl 5 (a_if 0 32 8)))) (bn 12 (bn 9 (bl 8 (a_iload 2 9)) (bl 9 (a_inv zG0 zprot (true, false) zc_180 (zbd 180) (9, 0, 0) 1 12))) (bn 15 (bl 12 (a_if 0 32 15)) (bl 15 (a_iload 3 16))))) (bn 25 (bn 22 (bn 19 (bl 16 (a_inv zG0 zprot (true, false) zc_178 (zbd 178) (9, 0, 0) 1 19)) (bl 19 (a_if 0 32 22))) (bn 24 (bl 22 (a_iload 4 24)) (bl 24 (a_const 0 25)))) (bn 29 (bn 26 (bl 25 (a_const 1 26)) (bl 26 (a_inv zG0 zprot (true, false) zc_168 (zbd 168) (9, 0, 0) 3 29))) (bn 32 (bl 29 (a_if 1 34 32)) (bl 32 (a_const (-1) 33)))))) (bn 49 (bn 40 (bn 38 (bn 35 (bl 34 (a_aload 0 35)) (bl 35 (a_invV zG0 zprot (true, false) zc_136 (zbd 136) (9, 0, 0) 12 1 38))) (bn 39 (bl 38 (a_aload 0 39)) (bl 39 (a_iload 3 40)))) (bn 44 (bn 43 (bl 40 (a_invV zG0 zprot (true, false) zc_150 (zbd 150) (9, 0, 0) 12 2 43)) (bl 43 (a_aload 0 44))) (bn 47 (bl 44 (a_getf zG0 zT0 12 0 47)) (bl 47 (a_const 80 49))))) (bn 55 (bn 52 (bn 51 (bl 49 (a_iload 4 51)) (bl 51 (a_bin fmul 52))) (bn 54 (bl 52 (a_const 8 54)) (bl 54 (a_iload 1 55)))) (bn 57 (bn 56 (bl 55 (a_bin fmul 56)) (bl 56 (a_bin fadd 57))) (bn 58 (bl 57 (a_iload 2 58)) (bn 59 (bl 58 (a_bin fadd 59)) (bl 59 (a_ald zG0 zT0 (true, false) ts0 60)))))))
set_option maxRecDepth 100000 in
set_option maxHeartbeats 4000000 in
theorem zTo_217 {pre : zPre} {post : zPost} (H : zTieC pre post) {d : Nat × Nat × Nat} (hd : zLe (9, 0, 0) d) : aTr zG0 zT0 zInv (true, false) PZ zbd pre post d prog_14_method_103_code "CapitalCaseModel" zTr_217 := (xB_n (xB_n (xB_n (xB_n (xB_n (xB_l ⟨_, zs_aload_n em190_0, as_aload⟩) (xB_l ⟨_, zs_iload_n em190_1, as_iload⟩)) (xB_n (xB_l ⟨_, zs_invV (T := TX12) em190_2 zl_177 rfl wd_1625 wd_1627 wd_72 ((congrFun xo_12 405).trans rfl) xm_151, ag_invV H zh_177 hd (by decide)⟩) (xB_l ⟨_, zs_ifeq em190_5 (t := 32) (by decide), as_if⟩))) (xB_n (xB_n (xB_l ⟨_, zs_iload_n em190_8, as_iload⟩) (xB_l ⟨_, zs_invS em190_9 zl_180 wd_1632 wd_1633 ((congrFun xo_12 408).trans rfl) xm_154, ag_inv H zh_180 hd (by decide)⟩)) (xB_n (xB_l ⟨_, zs_ifeq em190_12 (t := 32) (by decide), as_if⟩) (xB_l ⟨_, zs_iload_n em190_15, as_iload⟩)))) (xB_n (xB_n (xB_n (xB_l ⟨_, zs_invS em190_16 zl_178 wd_1751 wd_1752 ((congrFun xo_12 430).trans rfl) xm_152, ag_inv H zh_178 hd (by decide)⟩) (xB_l ⟨_, zs_ifeq em190_19 (t := 32) (by decide), as_if⟩)) (xB_n (xB_l ⟨_, zs_iload em190_22, as_iload⟩) (xB_l ⟨_, zs_iconst (v := 0) em190_24 (by decide +kernel), as_const (by decide +kernel)⟩))) (xB_n (xB_n (xB_l ⟨_, zs_iconst (v := 1) em190_25 (by decide +kernel), as_const (by decide +kernel)⟩) (xB_l ⟨_, zs_invS em190_26 zl_168 wd_1629 wd_1630 ((congrFun xo_12 324).trans rfl) xm_148, ag_inv H zh_168 hd (by decide)⟩)) (xB_n (xB_l ⟨_, zs_ifne em190_29 (t := 34) (by decide), as_if⟩) (xB_l ⟨_, zs_iconst (v := (-1)) em190_32 (by decide +kernel), as_const (by decide +kernel)⟩))))) (xB_n (xB_n (xB_n (xB_n (xB_l ⟨_, zs_aload_n em190_34, as_aload⟩) (xB_l ⟨_, zs_invV (T := TX12) em190_35 zl_136 rfl wd_1635 wd_1637 wd_73 ((congrFun xo_12 411).trans rfl) xm_129, ag_invV H zh_136 hd (by decide)⟩)) (xB_n (xB_l ⟨_, zs_aload_n em190_38, as_aload⟩) (xB_l ⟨_, zs_iload_n em190_39, as_iload⟩))) (xB_n (xB_n (xB_l ⟨_, zs_invV (T := TX12) em190_40 zl_150 rfl wd_1754 wd_1756 wd_93 ((congrFun xo_12 433).trans rfl) xm_143, ag_invV H zh_150 hd (by decide)⟩) (xB_l ⟨_, zs_aload_n em190_43, as_aload⟩)) (xB_n (xB_l ⟨_, zs_getf (T := TX12) (M := 70) (ci := 12) (j := 0) em190_44 rfl inX12 (by decide) wd_1332 ((congrFun xo_12 116).trans rfl), as_getf zTie⟩) (xB_l ⟨_, zs_bipush (v := 80) em190_47 (by decide +kernel), as_const (by decide +kernel)⟩)))) (xB_n (xB_n (xB_n (xB_l ⟨_, zs_iload em190_49, as_iload⟩) (xB_l ⟨_, zs_imul em190_51, as_bin fmul_ok⟩)) (xB_n (xB_l ⟨_, zs_bipush (v := 8) em190_52 (by decide +kernel), as_const (by decide +kernel)⟩) (xB_l ⟨_, zs_iload_n em190_54, as_iload⟩))) (xB_n (xB_n (xB_l ⟨_, zs_imul em190_55, as_bin fmul_ok⟩) (xB_l ⟨_, zs_iadd em190_56, as_bin fadd_ok⟩)) (xB_n (xB_l ⟨_, zs_iload_n em190_57, as_iload⟩) (xB_n (xB_l ⟨_, zs_iadd em190_58, as_bin fadd_ok⟩) (xB_l ⟨_, zs_iald em190_59, ag_iald⟩)))))))
set_option maxRecDepth 100000 in
set_option maxHeartbeats 4000000 in
theorem zM_217 : zOKa 217 zc_217 := z_auto (cuts := []) (rets := [(33, 1), (60, 1)]) (fuel := 1000) rfl rfl (by decide) (xrt_ok (xR_c (Or.inl ⟨rfl, em190_33, rfl⟩) (xR_c (Or.inl ⟨rfl, em190_60, rfl⟩) (xR_n)))) (fun _ _ H _ hd => zTo_217 H hd) (by decide +kernel)
theorem em191_0 : decode prog_14_method_69_code 0 = .ok (.aload_n 0, 1) := by decide +kernel
theorem em191_1 : decode prog_14_method_69_code 1 = .ok (.iconst 4, 1) := by decide +kernel
theorem em191_2 : decode prog_14_method_69_code 2 = .ok (.aload_n 0, 1) := by decide +kernel
theorem em191_3 : decode prog_14_method_69_code 3 = .ok (.getfield 116, 3) := by decide +kernel
theorem em191_6 : decode prog_14_method_69_code 6 = .ok (.sipush 386, 3) := by decide +kernel
theorem em191_9 : decode prog_14_method_69_code 9 = .ok (.iaload, 1) := by decide +kernel
theorem em191_10 : decode prog_14_method_69_code 10 = .ok (.imul, 1) := by decide +kernel
theorem em191_11 : decode prog_14_method_69_code 11 = .ok (.iconst 1, 1) := by decide +kernel
theorem em191_12 : decode prog_14_method_69_code 12 = .ok (.iadd, 1) := by decide +kernel
theorem em191_13 : decode prog_14_method_69_code 13 = .ok (.bipush 8, 2) := by decide +kernel
theorem em191_15 : decode prog_14_method_69_code 15 = .ok (.invokevirtual 341, 3) := by decide +kernel
theorem em191_18 : decode prog_14_method_69_code 18 = .ok (.istore_n 1, 1) := by decide +kernel
theorem em191_19 : decode prog_14_method_69_code 19 = .ok (.iconst (-1), 1) := by decide +kernel
theorem em191_20 : decode prog_14_method_69_code 20 = .ok (.istore_n 2, 1) := by decide +kernel
theorem em191_21 : decode prog_14_method_69_code 21 = .ok (.iconst 0, 1) := by decide +kernel
theorem em191_22 : decode prog_14_method_69_code 22 = .ok (.istore_n 3, 1) := by decide +kernel
theorem em191_23 : decode prog_14_method_69_code 23 = .ok (.iload_n 3, 1) := by decide +kernel
theorem em191_24 : decode prog_14_method_69_code 24 = .ok (.aload_n 0, 1) := by decide +kernel
theorem em191_25 : decode prog_14_method_69_code 25 = .ok (.getfield 43, 3) := by decide +kernel
theorem em191_28 : decode prog_14_method_69_code 28 = .ok (.aload_n 0, 1) := by decide +kernel
theorem em191_29 : decode prog_14_method_69_code 29 = .ok (.getfield 230, 3) := by decide +kernel
theorem em191_32 : decode prog_14_method_69_code 32 = .ok (.iaload, 1) := by decide +kernel
theorem em191_33 : decode prog_14_method_69_code 33 = .ok (.if_icmp .ge 40, 3) := by decide +kernel
theorem em191_36 : decode prog_14_method_69_code 36 = .ok (.iload_n 2, 1) := by decide +kernel
theorem em191_37 : decode prog_14_method_69_code 37 = .ok (.ifCond .lt 28, 3) := by decide +kernel
theorem em191_40 : decode prog_14_method_69_code 40 = .ok (.aload_n 0, 1) := by decide +kernel
theorem em191_41 : decode prog_14_method_69_code 41 = .ok (.getfield 116, 3) := by decide +kernel
theorem em191_44 : decode prog_14_method_69_code 44 = .ok (.bipush 8, 2) := by decide +kernel
theorem em191_46 : decode prog_14_method_69_code 46 = .ok (.iload_n 3, 1) := by decide +kernel
theorem em191_47 : decode prog_14_method_69_code 47 = .ok (.imul, 1) := by decide +kernel
theorem em191_48 : decode prog_14_method_69_code 48 = .ok (.iload_n 1, 1) := by decide +kernel
theorem em191_49 : decode prog_14_method_69_code 49 = .ok (.iadd, 1) := by decide +kernel
theorem em191_50 : decode prog_14_method_69_code 50 = .ok (.iaload, 1) := by decide +kernel
theorem em191_51 : decode prog_14_method_69_code 51 = .ok (.aload_n 0, 1) := by decide +kernel
theorem em191_52 : decode prog_14_method_69_code 52 = .ok (.getfield 116, 3) := by decide +kernel
theorem em191_55 : decode prog_14_method_69_code 55 = .ok (.bipush 8, 2) := by decide +kernel
theorem em191_57 : decode prog_14_method_69_code 57 = .ok (.iload_n 2, 1) := by decide +kernel
theorem em191_58 : decode prog_14_method_69_code 58 = .ok (.imul, 1) := by decide +kernel
theorem em191_59 : decode prog_14_method_69_code 59 = .ok (.iload_n 1, 1) := by decide +kernel
theorem em191_60 : decode prog_14_method_69_code 60 = .ok (.iadd, 1) := by decide +kernel
theorem em191_61 : decode prog_14_method_69_code 61 = .ok (.iaload, 1) := by decide +kernel
theorem em191_62 : decode prog_14_method_69_code 62 = .ok (.if_icmp .le 5, 3) := by decide +kernel
theorem em191_65 : decode prog_14_method_69_code 65 = .ok (.iload_n 3, 1) := by decide +kernel
theorem em191_66 : decode prog_14_method_69_code 66 = .ok (.istore_n 2, 1) := by decide +kernel
theorem em191_67 : decode prog_14_method_69_code 67 = .ok (.iinc 3 1, 3) := by decide +kernel
theorem em191_70 : decode prog_14_method_69_code 70 = .ok (.goto (-47), 3) := by decide +kernel
theorem em191_73 : decode prog_14_method_69_code 73 = .ok (.iload_n 2, 1) := by decide +kernel
theorem em191_74 : decode prog_14_method_69_code 74 = .ok (.ifCond .lt 17, 3) := by decide +kernel
theorem em191_77 : decode prog_14_method_69_code 77 = .ok (.aload_n 0, 1) := by decide +kernel
theorem em191_78 : decode prog_14_method_69_code 78 = .ok (.getfield 116, 3) := by decide +kernel
theorem em191_81 : decode prog_14_method_69_code 81 = .ok (.bipush 8, 2) := by decide +kernel
theorem em191_83 : decode prog_14_method_69_code 83 = .ok (.iload_n 2, 1) := by decide +kernel
theorem em191_84 : decode prog_14_method_69_code 84 = .ok (.imul, 1) := by decide +kernel
theorem em191_85 : decode prog_14_method_69_code 85 = .ok (.iload_n 1, 1) := by decide +kernel
theorem em191_86 : decode prog_14_method_69_code 86 = .ok (.iadd, 1) := by decide +kernel
theorem em191_87 : decode prog_14_method_69_code 87 = .ok (.iaload, 1) := by decide +kernel
theorem em191_88 : decode prog_14_method_69_code 88 = .ok (.ifCond .ne 4, 3) := by decide +kernel
theorem em191_91 : decode prog_14_method_69_code 91 = .ok (.return_, 1) := by decide +kernel
theorem em191_92 : decode prog_14_method_69_code 92 = .ok (.aload_n 0, 1) := by decide +kernel
theorem em191_93 : decode prog_14_method_69_code 93 = .ok (.getfield 116, 3) := by decide +kernel
theorem em191_96 : decode prog_14_method_69_code 96 = .ok (.bipush 8, 2) := by decide +kernel
theorem em191_98 : decode prog_14_method_69_code 98 = .ok (.iload_n 2, 1) := by decide +kernel
theorem em191_99 : decode prog_14_method_69_code 99 = .ok (.imul, 1) := by decide +kernel
theorem em191_100 : decode prog_14_method_69_code 100 = .ok (.iload_n 1, 1) := by decide +kernel
theorem em191_101 : decode prog_14_method_69_code 101 = .ok (.iadd, 1) := by decide +kernel
theorem em191_102 : decode prog_14_method_69_code 102 = .ok (.dup2, 1) := by decide +kernel
theorem em191_103 : decode prog_14_method_69_code 103 = .ok (.iaload, 1) := by decide +kernel
theorem em191_104 : decode prog_14_method_69_code 104 = .ok (.iconst 1, 1) := by decide +kernel
theorem em191_105 : decode prog_14_method_69_code 105 = .ok (.isub, 1) := by decide +kernel
theorem em191_106 : decode prog_14_method_69_code 106 = .ok (.iastore, 1) := by decide +kernel
theorem em191_107 : decode prog_14_method_69_code 107 = .ok (.aload_n 0, 1) := by decide +kernel
theorem em191_108 : decode prog_14_method_69_code 108 = .ok (.getfield 116, 3) := by decide +kernel
theorem em191_111 : decode prog_14_method_69_code 111 = .ok (.sipush 388, 3) := by decide +kernel
theorem em191_114 : decode prog_14_method_69_code 114 = .ok (.dup2, 1) := by decide +kernel
theorem em191_115 : decode prog_14_method_69_code 115 = .ok (.iaload, 1) := by decide +kernel
theorem em191_116 : decode prog_14_method_69_code 116 = .ok (.iconst 1, 1) := by decide +kernel
theorem em191_117 : decode prog_14_method_69_code 117 = .ok (.iadd, 1) := by decide +kernel
theorem em191_118 : decode prog_14_method_69_code 118 = .ok (.iastore, 1) := by decide +kernel
theorem em191_119 : decode prog_14_method_69_code 119 = .ok (.return_, 1) := by decide +kernel
/-! CapitalCaseModel.thievesCome:()V -/
noncomputable def zTr_218 : Nat → Option aF := bn 59 (bn 28 (bn 13 (bn 6 (bn 2 (bn 1 (bl 0 (a_aload 0 1)) (bl 1 (a_const 4 2))) (bn 3 (bl 2 (a_aload 0 3)) (bl 3 (a_getf zG0 zT0 12 0 6)))) (bn 10 (bn 9 (bl 6 (a_const 386 9)) (bl 9 (a_ald zG0 zT0 (true, false) ts0 10))) (bn 11 (bl 10 (a_bin fmul 11)) (bn 12 (bl 11 (a_const 1 12)) (bl 12 (a_bin fadd 13)))))) (bn 21 (bn 18 (bn 15 (bl 13 (a_const 8 15)) (bl 15 (a_invV zG0 zprot (true, false) zc_194 (zbd 194) (2, 0, 0) 12 3 18))) (bn 19 (bl 18 (a_istore 1 19)) (bn 20 (bl 19 (a_const (-1) 20)) (bl 20 (a_istore 2 21))))) (bn 23 (bn 22 (bl 21 (a_const 0 22)) (bl 22 (a_istore 3 23))) (bn 24 (bl 23 (a_iload 3 24)) (bn 25 (bl 24 (a_aload 0 25)) (bl 25 (a_getf zG0 zT0 12 3 28))))))) (bn 46 (bn 36 (bn 32 (bn 29 (bl 28 (a_aload 0 29)) (bl 29 (a_getf zG0 zT0 12 2 32))) (bn 33 (bl 32 (a_ald zG0 zT0 (true, false) ts0 33)) (bl 33 (a_icmp 3 73 36)))) (bn 40 (bn 37 (bl 36 (a_iload 2 37)) (bl 37 (a_if 2 65 40))) (bn 41 (bl 40 (a_aload 0 41)) (bn 44 (bl 41 (a_getf zG0 zT0 12 0 44)) (bl 44 (a_const 8 46)))))) (bn 51 (bn 48 (bn 47 (bl 46 (a_iload 3 47)) (bl 47 (a_bin fmul 48))) (bn 49 (bl 48 (a_iload 1 49)) (bn 50 (bl 49 (a_bin fadd 50)) (bl 50 (a_ald zG0 zT0 (true, false) ts0 51))))) (bn 55 (bn 52 (bl 51 (a_aload 0 52)) (bl 52 (a_getf zG0 zT0 12 0 55))) (bn 57 (bl 55 (a_const 8 57)) (bn 58 (bl 57 (a_iload 2 58)) (bl 58 (a_bin fmul 59)))))))) (bn 92 (bn 74 (bn 65 (bn 61 (bn 60 (bl 59 (a_iload 1 60)) (bl 60 (a_bin fadd 61))) (bn 62 (bl 61 (a_ald zG0 zT0 (true, false) ts0 62)) (bl 62 (a_icmp 5 67 65)))) (bn 67 (bn 66 (bl 65 (a_iload 3 66)) (bl 66 (a_istore 2 67))) (bn 70 (bl 67 (a_iinc 3 1 70)) (bn 73 (bl 70 (a_goto 23)) (bl 73 (a_iload 2 74)))))) (bn 84 (bn 78 (bn 77 (bl 74 (a_if 2 91 77)) (bl 77 (a_aload 0 78))) (bn 81 (bl 78 (a_getf zG0 zT0 12 0 81)) (bn 83 (bl 81 (a_const 8 83)) (bl 83 (a_iload 2 84))))) (bn 86 (bn 85 (bl 84 (a_bin fmul 85)) (bl 85 (a_iload 1 86))) (bn 87 (bl 86 (a_bin fadd 87)) (bn 88 (bl 87 (a_ald zG0 zT0 (true, false) ts0 88)) (bl 88 (a_if 1 92 91))))))) (bn 105 (bn 100 (bn 96 (bn 93 (bl 92 (a_aload 0 93)) (bl 93 (a_getf zG0 zT0 12 0 96))) (bn 98 (bl 96 (a_const 8 98)) (bn 99 (bl 98 (a_iload 2 99)) (bl 99 (a_bin fmul 100))))) (bn 102 (bn 101 (bl 100 (a_iload 1 101)) (bl 101 (a_bin fadd 102))) (bn 103 (bl 102 (a_dup2 103)) (bn 104 (bl 103 (a_ald zG0 zT0 (true, false) ts0 104)) (bl 104 (a_const 1 105)))))) (bn 114 (bn 107 (bn 106 (bl 105 (a_bin fsub 106)) (bl 106 (a_ast zG0 zT0 ts0 107))) (bn 108 (bl 107 (a_aload 0 108)) (bn 111 (bl 108 (a_getf zG0 zT0 12 0 111)) (bl 111 (a_const 388 114))))) (bn 116 (bn 115 (bl 114 (a_dup2 115)) (bl 115 (a_ald zG0 zT0 (true, false) ts0 116))) (bn 117 (bl 116 (a_const 1 117)) (bn 118 (bl 117 (a_bin fadd 118)) (bl 118 (a_ast zG0 zT0 ts0 119))))))))
set_option maxRecDepth 100000 in
set_option maxHeartbeats 4000000 in
theorem zTo_218 {pre : zPre} {post : zPost} (H : zTieC pre post) {d : Nat × Nat × Nat} (hd : zLe (2, 0, 0) d) : aTr zG0 zT0 zInv (true, false) PZ zbd pre post d prog_14_method_69_code "CapitalCaseModel" zTr_218 := (xB_n (xB_n (xB_n (xB_n (xB_n (xB_n (xB_l ⟨_, zs_aload_n em191_0, as_aload⟩) (xB_l ⟨_, zs_iconst (v := 4) em191_1 (by decide +kernel), as_const (by decide +kernel)⟩)) (xB_n (xB_l ⟨_, zs_aload_n em191_2, as_aload⟩) (xB_l ⟨_, zs_getf (T := TX12) (M := 70) (ci := 12) (j := 0) em191_3 rfl inX12 (by decide) wd_1332 ((congrFun xo_12 116).trans rfl), as_getf zTie⟩))) (xB_n (xB_n (xB_l ⟨_, zs_sipush (v := 386) em191_6 (by decide +kernel), as_const (by decide +kernel)⟩) (xB_l ⟨_, zs_iald em191_9, ag_iald⟩)) (xB_n (xB_l ⟨_, zs_imul em191_10, as_bin fmul_ok⟩) (xB_n (xB_l ⟨_, zs_iconst (v := 1) em191_11 (by decide +kernel), as_const (by decide +kernel)⟩) (xB_l ⟨_, zs_iadd em191_12, as_bin fadd_ok⟩))))) (xB_n (xB_n (xB_n (xB_l ⟨_, zs_bipush (v := 8) em191_13 (by decide +kernel), as_const (by decide +kernel)⟩) (xB_l ⟨_, zs_invV (T := TX12) em191_15 zl_194 rfl wd_1770 wd_1772 wd_97 ((congrFun xo_12 341).trans rfl) xm_167, ag_invV H zh_194 hd (by decide)⟩)) (xB_n (xB_l ⟨_, zs_istore_n em191_18, as_istore⟩) (xB_n (xB_l ⟨_, zs_iconst (v := (-1)) em191_19 (by decide +kernel), as_const (by decide +kernel)⟩) (xB_l ⟨_, zs_istore_n em191_20, as_istore⟩)))) (xB_n (xB_n (xB_l ⟨_, zs_iconst (v := 0) em191_21 (by decide +kernel), as_const (by decide +kernel)⟩) (xB_l ⟨_, zs_istore_n em191_22, as_istore⟩)) (xB_n (xB_l ⟨_, zs_iload_n em191_23, as_iload⟩) (xB_n (xB_l ⟨_, zs_aload_n em191_24, as_aload⟩) (xB_l ⟨_, zs_getf (T := TX12) (M := 70) (ci := 12) (j := 3) em191_25 rfl inX12 (by decide) wd_1303 ((congrFun xo_12 43).trans rfl), as_getf zTie⟩)))))) (xB_n (xB_n (xB_n (xB_n (xB_l ⟨_, zs_aload_n em191_28, as_aload⟩) (xB_l ⟨_, zs_getf (T := TX12) (M := 70) (ci := 12) (j := 2) em191_29 rfl inX12 (by decide) wd_1299 ((congrFun xo_12 230).trans rfl), as_getf zTie⟩)) (xB_n (xB_l ⟨_, zs_iald em191_32, ag_iald⟩) (xB_l ⟨_, zs_icmpge em191_33 (t := 73) (by decide), as_icmp⟩))) (xB_n (xB_n (xB_l ⟨_, zs_iload_n em191_36, as_iload⟩) (xB_l ⟨_, zs_iflt em191_37 (t := 65) (by decide), as_if⟩)) (xB_n (xB_l ⟨_, zs_aload_n em191_40, as_aload⟩) (xB_n (xB_l ⟨_, zs_getf (T := TX12) (M := 70) (ci := 12) (j := 0) em191_41 rfl inX12 (by decide) wd_1332 ((congrFun xo_12 116).trans rfl), as_getf zTie⟩) (xB_l ⟨_, zs_bipush (v := 8) em191_44 (by decide +kernel), as_const (by decide +kernel)⟩))))) (xB_n (xB_n (xB_n (xB_l ⟨_, zs_iload_n em191_46, as_iload⟩) (xB_l ⟨_, zs_imul em191_47, as_bin fmul_ok⟩)) (xB_n (xB_l ⟨_, zs_iload_n em191_48, as_iload⟩) (xB_n (xB_l ⟨_, zs_iadd em191_49, as_bin fadd_ok⟩) (xB_l ⟨_, zs_iald em191_50, ag_iald⟩)))) (xB_n (xB_n (xB_l ⟨_, zs_aload_n em191_51, as_aload⟩) (xB_l ⟨_, zs_getf (T := TX12) (M := 70) (ci := 12) (j := 0) em191_52 rfl inX12 (by decide) wd_1332 ((congrFun xo_12 116).trans rfl), as_getf zTie⟩)) (xB_n (xB_l ⟨_, zs_bipush (v := 8) em191_55 (by decide +kernel), as_const (by decide +kernel)⟩) (xB_n (xB_l ⟨_, zs_iload_n em191_57, as_iload⟩) (xB_l ⟨_, zs_imul em191_58, as_bin fmul_ok⟩))))))) (xB_n (xB_n (xB_n (xB_n (xB_n (xB_l ⟨_, zs_iload_n em191_59, as_iload⟩) (xB_l ⟨_, zs_iadd em191_60, as_bin fadd_ok⟩)) (xB_n (xB_l ⟨_, zs_iald em191_61, ag_iald⟩) (xB_l ⟨_, zs_icmple em191_62 (t := 67) (by decide), as_icmp⟩))) (xB_n (xB_n (xB_l ⟨_, zs_iload_n em191_65, as_iload⟩) (xB_l ⟨_, zs_istore_n em191_66, as_istore⟩)) (xB_n (xB_l ⟨_, zs_iinc (k := 1) em191_67 (by decide +kernel), as_iinc (by decide +kernel)⟩) (xB_n (xB_l ⟨_, zs_goto em191_70 (t := 23) (by decide), as_goto⟩) (xB_l ⟨_, zs_iload_n em191_73, as_iload⟩))))) (xB_n (xB_n (xB_n (xB_l ⟨_, zs_iflt em191_74 (t := 91) (by decide), as_if⟩) (xB_l ⟨_, zs_aload_n em191_77, as_aload⟩)) (xB_n (xB_l ⟨_, zs_getf (T := TX12) (M := 70) (ci := 12) (j := 0) em191_78 rfl inX12 (by decide) wd_1332 ((congrFun xo_12 116).trans rfl), as_getf zTie⟩) (xB_n (xB_l ⟨_, zs_bipush (v := 8) em191_81 (by decide +kernel), as_const (by decide +kernel)⟩) (xB_l ⟨_, zs_iload_n em191_83, as_iload⟩)))) (xB_n (xB_n (xB_l ⟨_, zs_imul em191_84, as_bin fmul_ok⟩) (xB_l ⟨_, zs_iload_n em191_85, as_iload⟩)) (xB_n (xB_l ⟨_, zs_iadd em191_86, as_bin fadd_ok⟩) (xB_n (xB_l ⟨_, zs_iald em191_87, ag_iald⟩) (xB_l ⟨_, zs_ifne em191_88 (t := 92) (by decide), as_if⟩)))))) (xB_n (xB_n (xB_n (xB_n (xB_l ⟨_, zs_aload_n em191_92, as_aload⟩) (xB_l ⟨_, zs_getf (T := TX12) (M := 70) (ci := 12) (j := 0) em191_93 rfl inX12 (by decide) wd_1332 ((congrFun xo_12 116).trans rfl), as_getf zTie⟩)) (xB_n (xB_l ⟨_, zs_bipush (v := 8) em191_96 (by decide +kernel), as_const (by decide +kernel)⟩) (xB_n (xB_l ⟨_, zs_iload_n em191_98, as_iload⟩) (xB_l ⟨_, zs_imul em191_99, as_bin fmul_ok⟩)))) (xB_n (xB_n (xB_l ⟨_, zs_iload_n em191_100, as_iload⟩) (xB_l ⟨_, zs_iadd em191_101, as_bin fadd_ok⟩)) (xB_n (xB_l ⟨_, zs_dup2 em191_102, as_dup2⟩) (xB_n (xB_l ⟨_, zs_iald em191_103, ag_iald⟩) (xB_l ⟨_, zs_iconst (v := 1) em191_104 (by decide +kernel), as_const (by decide +kernel)⟩))))) (xB_n (xB_n (xB_n (xB_l ⟨_, zs_isub em191_105, as_bin fsub_ok⟩) (xB_l ⟨_, zs_iast zInj0 em191_106, as_iast zTie⟩)) (xB_n (xB_l ⟨_, zs_aload_n em191_107, as_aload⟩) (xB_n (xB_l ⟨_, zs_getf (T := TX12) (M := 70) (ci := 12) (j := 0) em191_108 rfl inX12 (by decide) wd_1332 ((congrFun xo_12 116).trans rfl), as_getf zTie⟩) (xB_l ⟨_, zs_sipush (v := 388) em191_111 (by decide +kernel), as_const (by decide +kernel)⟩)))) (xB_n (xB_n (xB_l ⟨_, zs_dup2 em191_114, as_dup2⟩) (xB_l ⟨_, zs_iald em191_115, ag_iald⟩)) (xB_n (xB_l ⟨_, zs_iconst (v := 1) em191_116 (by decide +kernel), as_const (by decide +kernel)⟩) (xB_n (xB_l ⟨_, zs_iadd em191_117, as_bin fadd_ok⟩) (xB_l ⟨_, zs_iast zInj0 em191_118, as_iast zTie⟩))))))))
set_option maxRecDepth 100000 in
set_option maxHeartbeats 4000000 in
theorem zM_218 : zOKa 218 zc_218 := z_auto (cuts := [(23, ([(0, 0), (0, 1), (0, 7), ((-1), 4), (0, 5)], [], [some (.inr (.inl (0, 75))), some (.inl (2, 0)), some (.inl (3, 0)), some (.inl (4, 0))], [], [(22, 1, 0)], (0, 0)), [(0, 1), (0, 2), (0, 3)], 5, [0, 0, 0, 0, (-1)])]) (rets := [(91, 3), (119, 3)]) (fuel := 1000) rfl rfl (by decide) (xrt_ok (xR_c (Or.inr (Or.inr (Or.inl ⟨rfl, em191_91, rfl⟩))) (xR_c (Or.inr (Or.inr (Or.inl ⟨rfl, em191_119, rfl⟩))) (xR_n)))) (fun _ _ H _ hd => zTo_218 H hd) (by decide +kernel)
theorem em193_0 : decode prog_14_method_92_code 0 = .ok (.iload_n 1, 1) := by decide +kernel
theorem em193_1 : decode prog_14_method_92_code 1 = .ok (.iconst 0, 1) := by decide +kernel
theorem em193_2 : decode prog_14_method_92_code 2 = .ok (.iconst 1, 1) := by decide +kernel
theorem em193_3 : decode prog_14_method_92_code 3 = .ok (.invokestatic 324, 3) := by decide +kernel
theorem em193_6 : decode prog_14_method_92_code 6 = .ok (.ifCond .ne 5, 3) := by decide +kernel
theorem em193_9 : decode prog_14_method_92_code 9 = .ok (.iconst (-1), 1) := by decide +kernel
theorem em193_10 : decode prog_14_method_92_code 10 = .ok (.ireturn, 1) := by decide +kernel
theorem em193_11 : decode prog_14_method_92_code 11 = .ok (.aload_n 0, 1) := by decide +kernel
theorem em193_12 : decode prog_14_method_92_code 12 = .ok (.invokevirtual 411, 3) := by decide +kernel
theorem em193_15 : decode prog_14_method_92_code 15 = .ok (.aload_n 0, 1) := by decide +kernel
theorem em193_16 : decode prog_14_method_92_code 16 = .ok (.invokevirtual 436, 3) := by decide +kernel
theorem em193_19 : decode prog_14_method_92_code 19 = .ok (.istore_n 2, 1) := by decide +kernel
theorem em193_20 : decode prog_14_method_92_code 20 = .ok (.iconst 0, 1) := by decide +kernel
theorem em193_21 : decode prog_14_method_92_code 21 = .ok (.istore_n 3, 1) := by decide +kernel
theorem em193_22 : decode prog_14_method_92_code 22 = .ok (.iconst (-1), 1) := by decide +kernel
theorem em193_23 : decode prog_14_method_92_code 23 = .ok (.istore 4, 2) := by decide +kernel
theorem em193_25 : decode prog_14_method_92_code 25 = .ok (.iconst 0, 1) := by decide +kernel
theorem em193_26 : decode prog_14_method_92_code 26 = .ok (.istore 5, 2) := by decide +kernel
theorem em193_28 : decode prog_14_method_92_code 28 = .ok (.iload 5, 2) := by decide +kernel
theorem em193_30 : decode prog_14_method_92_code 30 = .ok (.iconst 1, 1) := by decide +kernel
theorem em193_31 : decode prog_14_method_92_code 31 = .ok (.aload_n 0, 1) := by decide +kernel
theorem em193_32 : decode prog_14_method_92_code 32 = .ok (.getfield 49, 3) := by decide +kernel
theorem em193_35 : decode prog_14_method_92_code 35 = .ok (.aload_n 0, 1) := by decide +kernel
theorem em193_36 : decode prog_14_method_92_code 36 = .ok (.getfield 230, 3) := by decide +kernel
theorem em193_39 : decode prog_14_method_92_code 39 = .ok (.iaload, 1) := by decide +kernel
theorem em193_40 : decode prog_14_method_92_code 40 = .ok (.ishl, 1) := by decide +kernel
theorem em193_41 : decode prog_14_method_92_code 41 = .ok (.if_icmp .ge 68, 3) := by decide +kernel
theorem em193_44 : decode prog_14_method_92_code 44 = .ok (.iload 5, 2) := by decide +kernel
theorem em193_46 : decode prog_14_method_92_code 46 = .ok (.iload_n 2, 1) := by decide +kernel
theorem em193_47 : decode prog_14_method_92_code 47 = .ok (.iconst (-1), 1) := by decide +kernel
theorem em193_48 : decode prog_14_method_92_code 48 = .ok (.ixor, 1) := by decide +kernel
theorem em193_49 : decode prog_14_method_92_code 49 = .ok (.iand, 1) := by decide +kernel
theorem em193_50 : decode prog_14_method_92_code 50 = .ok (.ifCond .eq 6, 3) := by decide +kernel
theorem em193_53 : decode prog_14_method_92_code 53 = .ok (.goto 50, 3) := by decide +kernel
theorem em193_56 : decode prog_14_method_92_code 56 = .ok (.aload_n 0, 1) := by decide +kernel
theorem em193_57 : decode prog_14_method_92_code 57 = .ok (.iload 5, 2) := by decide +kernel
theorem em193_59 : decode prog_14_method_92_code 59 = .ok (.invokevirtual 454, 3) := by decide +kernel
theorem em193_62 : decode prog_14_method_92_code 62 = .ok (.istore 6, 2) := by decide +kernel
theorem em193_64 : decode prog_14_method_92_code 64 = .ok (.iload 6, 2) := by decide +kernel
theorem em193_66 : decode prog_14_method_92_code 66 = .ok (.ifCond .ge 6, 3) := by decide +kernel
theorem em193_69 : decode prog_14_method_92_code 69 = .ok (.goto 34, 3) := by decide +kernel
theorem em193_72 : decode prog_14_method_92_code 72 = .ok (.aload_n 0, 1) := by decide +kernel
theorem em193_73 : decode prog_14_method_92_code 73 = .ok (.invokevirtual 451, 3) := by decide +kernel
theorem em193_76 : decode prog_14_method_92_code 76 = .ok (.iload 6, 2) := by decide +kernel
theorem em193_78 : decode prog_14_method_92_code 78 = .ok (.aload_n 0, 1) := by decide +kernel
theorem em193_79 : decode prog_14_method_92_code 79 = .ok (.getfield 442, 3) := by decide +kernel
theorem em193_82 : decode prog_14_method_92_code 82 = .ok (.iadd, 1) := by decide +kernel
theorem em193_83 : decode prog_14_method_92_code 83 = .ok (.iload 4, 2) := by decide +kernel
theorem em193_85 : decode prog_14_method_92_code 85 = .ok (.if_icmp .gt 6, 3) := by decide +kernel
theorem em193_88 : decode prog_14_method_92_code 88 = .ok (.goto 15, 3) := by decide +kernel
theorem em193_91 : decode prog_14_method_92_code 91 = .ok (.iload 5, 2) := by decide +kernel
theorem em193_93 : decode prog_14_method_92_code 93 = .ok (.istore_n 3, 1) := by decide +kernel
theorem em193_94 : decode prog_14_method_92_code 94 = .ok (.iload 6, 2) := by decide +kernel
theorem em193_96 : decode prog_14_method_92_code 96 = .ok (.aload_n 0, 1) := by decide +kernel
theorem em193_97 : decode prog_14_method_92_code 97 = .ok (.getfield 442, 3) := by decide +kernel
theorem em193_100 : decode prog_14_method_92_code 100 = .ok (.iadd, 1) := by decide +kernel
theorem em193_101 : decode prog_14_method_92_code 101 = .ok (.istore 4, 2) := by decide +kernel
theorem em193_103 : decode prog_14_method_92_code 103 = .ok (.iinc 5 1, 3) := by decide +kernel
theorem em193_106 : decode prog_14_method_92_code 106 = .ok (.goto (-78), 3) := by decide +kernel
theorem em193_109 : decode prog_14_method_92_code 109 = .ok (.iload_n 1, 1) := by decide +kernel
theorem em193_110 : decode prog_14_method_92_code 110 = .ok (.ifCond .ne 8, 3) := by decide +kernel
theorem em193_113 : decode prog_14_method_92_code 113 = .ok (.iload 4, 2) := by decide +kernel
theorem em193_115 : decode prog_14_method_92_code 115 = .ok (.goto 4, 3) := by decide +kernel
theorem em193_118 : decode prog_14_method_92_code 118 = .ok (.iload_n 3, 1) := by decide +kernel
theorem em193_119 : decode prog_14_method_92_code 119 = .ok (.ireturn, 1) := by decide +kernel
/-! CapitalCaseModel.twoDays:(I)I -/
noncomputable def zTr_220 : Nat → Option aF := bn 50 (bn 25 (bn 12 (bn 3 (bn 1 (bl 0 (a_iload 1 1)) (bn 2 (bl 1 (a_const 0 2)) (bl 2 (a_const 1 3)))) (bn 9 (bn 6 (bl 3 (a_inv zG0 zprot (true, false) zc_169 (zbd 169) (11, 0, 0) 3 6)) (bl 6 (a_if 1 11 9))) (bn 11 (bl 9 (a_const (-1) 10)) (bl 11 (a_aload 0 12))))) (bn 20 (bn 16 (bn 15 (bl 12 (a_invV zG0 zprot (true, false) zc_136 (zbd 136) (11, 0, 0) 12 1 15)) (bl 15 (a_aload 0 16))) (bn 19 (bl 16 (a_invV zG0 zprot (true, false) zc_199 (zbd 199) (11, 0, 0) 12 1 19)) (bl 19 (a_istore 2 20)))) (bn 22 (bn 21 (bl 20 (a_const 0 21)) (bl 21 (a_istore 3 22))) (bn 23 (bl 22 (a_const (-1) 23)) (bl 23 (a_istore 4 25)))))) (bn 39 (bn 31 (bn 28 (bn 26 (bl 25 (a_const 0 26)) (bl 26 (a_istore 5 28))) (bn 30 (bl 28 (a_iload 5 30)) (bl 30 (a_const 1 31)))) (bn 35 (bn 32 (bl 31 (a_aload 0 32)) (bl 32 (a_getf zG0 zT0 12 4 35))) (bn 36 (bl 35 (a_aload 0 36)) (bl 36 (a_getf zG0 zT0 12 2 39))))) (bn 46 (bn 41 (bn 40 (bl 39 (a_ald zG0 zT0 (true, false) ts0 40)) (bl 40 (a_bin fshl 41))) (bn 44 (bl 41 (a_icmp 3 109 44)) (bl 44 (a_iload 5 46)))) (bn 48 (bn 47 (bl 46 (a_iload 2 47)) (bl 47 (a_const (-1) 48))) (bn 49 (bl 48 (a_bin fany 49)) (bl 49 (a_bin fand 50))))))) (bn 85 (bn 69 (bn 59 (bn 56 (bn 53 (bl 50 (a_if 0 56 53)) (bl 53 (a_goto 103))) (bn 57 (bl 56 (a_aload 0 57)) (bl 57 (a_iload 5 59)))) (bn 64 (bn 62 (bl 59 (a_invV zG0 zprot (true, false) zc_143 (zbd 143) (11, 0, 0) 12 2 62)) (bl 62 (a_istore 6 64))) (bn 66 (bl 64 (a_iload 6 66)) (bl 66 (a_if 3 72 69))))) (bn 78 (bn 73 (bn 72 (bl 69 (a_goto 103)) (bl 72 (a_aload 0 73))) (bn 76 (bl 73 (a_invV zG0 zprot (true, false) zc_142 (zbd 142) (11, 0, 0) 12 1 76)) (bl 76 (a_iload 6 78)))) (bn 82 (bn 79 (bl 78 (a_aload 0 79)) (bl 79 (a_getf zG0 zT0 12 62 82))) (bn 83 (bl 82 (a_bin fadd 83)) (bl 83 (a_iload 4 85)))))) (bn 101 (bn 94 (bn 91 (bn 88 (bl 85 (a_icmp 4 91 88)) (bl 88 (a_goto 103))) (bn 93 (bl 91 (a_iload 5 93)) (bl 93 (a_istore 3 94)))) (bn 97 (bn 96 (bl 94 (a_iload 6 96)) (bl 96 (a_aload 0 97))) (bn 100 (bl 97 (a_getf zG0 zT0 12 62 100)) (bl 100 (a_bin fadd 101))))) (bn 110 (bn 106 (bn 103 (bl 101 (a_istore 4 103)) (bl 103 (a_iinc 5 1 106))) (bn 109 (bl 106 (a_goto 28)) (bl 109 (a_iload 1 110)))) (bn 115 (bn 113 (bl 110 (a_if 1 118 113)) (bl 113 (a_iload 4 115))) (bn 118 (bl 115 (a_goto 119)) (bl 118 (a_iload 3 119)))))))
set_option maxRecDepth 100000 in
set_option maxHeartbeats 4000000 in
theorem zTo_220 {pre : zPre} {post : zPost} (H : zTieC pre post) {d : Nat × Nat × Nat} (hd : zLe (11, 0, 0) d) : aTr zG0 zT0 zInv (true, false) PZ zbd pre post d prog_14_method_92_code "CapitalCaseModel" zTr_220 := (xB_n (xB_n (xB_n (xB_n (xB_n (xB_l ⟨_, zs_iload_n em193_0, as_iload⟩) (xB_n (xB_l ⟨_, zs_iconst (v := 0) em193_1 (by decide +kernel), as_const (by decide +kernel)⟩) (xB_l ⟨_, zs_iconst (v := 1) em193_2 (by decide +kernel), as_const (by decide +kernel)⟩))) (xB_n (xB_n (xB_l ⟨_, zs_invS em193_3 zl_169 wd_1629 wd_1630 ((congrFun xo_12 324).trans rfl) xm_148, ag_inv H zh_169 hd (by decide)⟩) (xB_l ⟨_, zs_ifne em193_6 (t := 11) (by decide), as_if⟩)) (xB_n (xB_l ⟨_, zs_iconst (v := (-1)) em193_9 (by decide +kernel), as_const (by decide +kernel)⟩) (xB_l ⟨_, zs_aload_n em193_11, as_aload⟩)))) (xB_n (xB_n (xB_n (xB_l ⟨_, zs_invV (T := TX12) em193_12 zl_136 rfl wd_1635 wd_1637 wd_73 ((congrFun xo_12 411).trans rfl) xm_129, ag_invV H zh_136 hd (by decide)⟩) (xB_l ⟨_, zs_aload_n em193_15, as_aload⟩)) (xB_n (xB_l ⟨_, zs_invV (T := TX12) em193_16 zl_199 rfl wd_1798 wd_1800 wd_100 ((congrFun xo_12 436).trans rfl) xm_172, ag_invV H zh_199 hd (by decide)⟩) (xB_l ⟨_, zs_istore_n em193_19, as_istore⟩))) (xB_n (xB_n (xB_l ⟨_, zs_iconst (v := 0) em193_20 (by decide +kernel), as_const (by decide +kernel)⟩) (xB_l ⟨_, zs_istore_n em193_21, as_istore⟩)) (xB_n (xB_l ⟨_, zs_iconst (v := (-1)) em193_22 (by decide +kernel), as_const (by decide +kernel)⟩) (xB_l ⟨_, zs_istore em193_23, as_istore⟩))))) (xB_n (xB_n (xB_n (xB_n (xB_l ⟨_, zs_iconst (v := 0) em193_25 (by decide +kernel), as_const (by decide +kernel)⟩) (xB_l ⟨_, zs_istore em193_26, as_istore⟩)) (xB_n (xB_l ⟨_, zs_iload em193_28, as_iload⟩) (xB_l ⟨_, zs_iconst (v := 1) em193_30 (by decide +kernel), as_const (by decide +kernel)⟩))) (xB_n (xB_n (xB_l ⟨_, zs_aload_n em193_31, as_aload⟩) (xB_l ⟨_, zs_getf (T := TX12) (M := 70) (ci := 12) (j := 4) em193_32 rfl inX12 (by decide) wd_1305 ((congrFun xo_12 49).trans rfl), as_getf zTie⟩)) (xB_n (xB_l ⟨_, zs_aload_n em193_35, as_aload⟩) (xB_l ⟨_, zs_getf (T := TX12) (M := 70) (ci := 12) (j := 2) em193_36 rfl inX12 (by decide) wd_1299 ((congrFun xo_12 230).trans rfl), as_getf zTie⟩)))) (xB_n (xB_n (xB_n (xB_l ⟨_, zs_iald em193_39, ag_iald⟩) (xB_l ⟨_, zs_ishl em193_40, as_bin fshl_ok⟩)) (xB_n (xB_l ⟨_, zs_icmpge em193_41 (t := 109) (by decide), as_icmp⟩) (xB_l ⟨_, zs_iload em193_44, as_iload⟩))) (xB_n (xB_n (xB_l ⟨_, zs_iload_n em193_46, as_iload⟩) (xB_l ⟨_, zs_iconst (v := (-1)) em193_47 (by decide +kernel), as_const (by decide +kernel)⟩)) (xB_n (xB_l ⟨_, zs_ixor em193_48, as_bin fany_ok⟩) (xB_l ⟨_, zs_iand em193_49, as_bin fand_ok⟩)))))) (xB_n (xB_n (xB_n (xB_n (xB_n (xB_l ⟨_, zs_ifeq em193_50 (t := 56) (by decide), as_if⟩) (xB_l ⟨_, zs_goto em193_53 (t := 103) (by decide), as_goto⟩)) (xB_n (xB_l ⟨_, zs_aload_n em193_56, as_aload⟩) (xB_l ⟨_, zs_iload em193_57, as_iload⟩))) (xB_n (xB_n (xB_l ⟨_, zs_invV (T := TX12) em193_59 zl_143 rfl wd_1822 wd_1824 wd_103 ((congrFun xo_12 454).trans rfl) xm_136, ag_invV H zh_143 hd (by decide)⟩) (xB_l ⟨_, zs_istore em193_62, as_istore⟩)) (xB_n (xB_l ⟨_, zs_iload em193_64, as_iload⟩) (xB_l ⟨_, zs_ifge em193_66 (t := 72) (by decide), as_if⟩)))) (xB_n (xB_n (xB_n (xB_l ⟨_, zs_goto em193_69 (t := 103) (by decide), as_goto⟩) (xB_l ⟨_, zs_aload_n em193_72, as_aload⟩)) (xB_n (xB_l ⟨_, zs_invV (T := TX12) em193_73 zl_142 rfl wd_1794 wd_1796 wd_99 ((congrFun xo_12 451).trans rfl) xm_135, ag_invV H zh_142 hd (by decide)⟩) (xB_l ⟨_, zs_iload em193_76, as_iload⟩))) (xB_n (xB_n (xB_l ⟨_, zs_aload_n em193_78, as_aload⟩) (xB_l ⟨_, zs_getf (T := TX12) (M := 70) (ci := 12) (j := 62) em193_79 rfl inX12 (by decide) wd_1343 ((congrFun xo_12 442).trans rfl), as_getf zTie⟩)) (xB_n (xB_l ⟨_, zs_iadd em193_82, as_bin fadd_ok⟩) (xB_l ⟨_, zs_iload em193_83, as_iload⟩))))) (xB_n (xB_n (xB_n (xB_n (xB_l ⟨_, zs_icmpgt em193_85 (t := 91) (by decide), as_icmp⟩) (xB_l ⟨_, zs_goto em193_88 (t := 103) (by decide), as_goto⟩)) (xB_n (xB_l ⟨_, zs_iload em193_91, as_iload⟩) (xB_l ⟨_, zs_istore_n em193_93, as_istore⟩))) (xB_n (xB_n (xB_l ⟨_, zs_iload em193_94, as_iload⟩) (xB_l ⟨_, zs_aload_n em193_96, as_aload⟩)) (xB_n (xB_l ⟨_, zs_getf (T := TX12) (M := 70) (ci := 12) (j := 62) em193_97 rfl inX12 (by decide) wd_1343 ((congrFun xo_12 442).trans rfl), as_getf zTie⟩) (xB_l ⟨_, zs_iadd em193_100, as_bin fadd_ok⟩)))) (xB_n (xB_n (xB_n (xB_l ⟨_, zs_istore em193_101, as_istore⟩) (xB_l ⟨_, zs_iinc (k := 1) em193_103 (by decide +kernel), as_iinc (by decide +kernel)⟩)) (xB_n (xB_l ⟨_, zs_goto em193_106 (t := 28) (by decide), as_goto⟩) (xB_l ⟨_, zs_iload_n em193_109, as_iload⟩))) (xB_n (xB_n (xB_l ⟨_, zs_ifne em193_110 (t := 118) (by decide), as_if⟩) (xB_l ⟨_, zs_iload em193_113, as_iload⟩)) (xB_n (xB_l ⟨_, zs_goto em193_115 (t := 119) (by decide), as_goto⟩) (xB_l ⟨_, zs_iload_n em193_118, as_iload⟩)))))))
set_option maxRecDepth 100000 in
set_option maxHeartbeats 4000000 in
theorem zM_220 : zOKa 220 zc_220 := z_auto (cuts := [(28, ([(0, 0), (0, 1), (0, 1), ((-2147483648), 2147483647), (0, 127), ((-2147483648), 2147483647), (0, 128)], [], [some (.inr (.inl (0, 75))), some (.inl (1, 0)), some (.inl (3, 0)), some (.inl (4, 0)), some (.inl (5, 0)), some (.inl (6, 0)), none], [], [(22, 2, 0)], (0, 0)), [(0, 2), (0, 3), (0, 4), (0, 5)], 128, [0, 0, 0, 0, 0, 0, (-1)])]) (rets := [(10, 1), (119, 1)]) (fuel := 1000) rfl rfl (by decide) (xrt_ok (xR_c (Or.inl ⟨rfl, em193_10, rfl⟩) (xR_c (Or.inl ⟨rfl, em193_119, rfl⟩) (xR_n)))) (fun _ _ H _ hd => zTo_220 H hd) (by decide +kernel)
theorem em195_0 : decode prog_14_method_73_code 0 = .ok (.aload_n 0, 1) := by decide +kernel
theorem em195_1 : decode prog_14_method_73_code 1 = .ok (.iload_n 1, 1) := by decide +kernel
theorem em195_2 : decode prog_14_method_73_code 2 = .ok (.invokevirtual 417, 3) := by decide +kernel
theorem em195_5 : decode prog_14_method_73_code 5 = .ok (.ifCond .ne 5, 3) := by decide +kernel
theorem em195_8 : decode prog_14_method_73_code 8 = .ok (.iconst (-1), 1) := by decide +kernel
theorem em195_9 : decode prog_14_method_73_code 9 = .ok (.ireturn, 1) := by decide +kernel
theorem em195_10 : decode prog_14_method_73_code 10 = .ok (.aload_n 0, 1) := by decide +kernel
theorem em195_11 : decode prog_14_method_73_code 11 = .ok (.invokevirtual 411, 3) := by decide +kernel
theorem em195_14 : decode prog_14_method_73_code 14 = .ok (.iload_n 2, 1) := by decide +kernel
theorem em195_15 : decode prog_14_method_73_code 15 = .ok (.tableswitch 95 0 4 #[33, 48, 63, 78, 89], 33) := by decide +kernel
theorem em195_48 : decode prog_14_method_73_code 48 = .ok (.aload_n 0, 1) := by decide +kernel
theorem em195_49 : decode prog_14_method_73_code 49 = .ok (.getfield 58, 3) := by decide +kernel
theorem em195_52 : decode prog_14_method_73_code 52 = .ok (.bipush 7, 2) := by decide +kernel
theorem em195_54 : decode prog_14_method_73_code 54 = .ok (.aload_n 0, 1) := by decide +kernel
theorem em195_55 : decode prog_14_method_73_code 55 = .ok (.getfield 230, 3) := by decide +kernel
theorem em195_58 : decode prog_14_method_73_code 58 = .ok (.imul, 1) := by decide +kernel
theorem em195_59 : decode prog_14_method_73_code 59 = .ok (.iload_n 1, 1) := by decide +kernel
theorem em195_60 : decode prog_14_method_73_code 60 = .ok (.iadd, 1) := by decide +kernel
theorem em195_61 : decode prog_14_method_73_code 61 = .ok (.iaload, 1) := by decide +kernel
theorem em195_62 : decode prog_14_method_73_code 62 = .ok (.ireturn, 1) := by decide +kernel
theorem em195_63 : decode prog_14_method_73_code 63 = .ok (.aload_n 0, 1) := by decide +kernel
theorem em195_64 : decode prog_14_method_73_code 64 = .ok (.getfield 61, 3) := by decide +kernel
theorem em195_67 : decode prog_14_method_73_code 67 = .ok (.bipush 7, 2) := by decide +kernel
theorem em195_69 : decode prog_14_method_73_code 69 = .ok (.aload_n 0, 1) := by decide +kernel
theorem em195_70 : decode prog_14_method_73_code 70 = .ok (.getfield 230, 3) := by decide +kernel
theorem em195_73 : decode prog_14_method_73_code 73 = .ok (.imul, 1) := by decide +kernel
theorem em195_74 : decode prog_14_method_73_code 74 = .ok (.iload_n 1, 1) := by decide +kernel
theorem em195_75 : decode prog_14_method_73_code 75 = .ok (.iadd, 1) := by decide +kernel
theorem em195_76 : decode prog_14_method_73_code 76 = .ok (.iaload, 1) := by decide +kernel
theorem em195_77 : decode prog_14_method_73_code 77 = .ok (.ireturn, 1) := by decide +kernel
theorem em195_78 : decode prog_14_method_73_code 78 = .ok (.aload_n 0, 1) := by decide +kernel
theorem em195_79 : decode prog_14_method_73_code 79 = .ok (.getfield 52, 3) := by decide +kernel
theorem em195_82 : decode prog_14_method_73_code 82 = .ok (.bipush 7, 2) := by decide +kernel
theorem em195_84 : decode prog_14_method_73_code 84 = .ok (.aload_n 0, 1) := by decide +kernel
theorem em195_85 : decode prog_14_method_73_code 85 = .ok (.getfield 230, 3) := by decide +kernel
theorem em195_88 : decode prog_14_method_73_code 88 = .ok (.imul, 1) := by decide +kernel
theorem em195_89 : decode prog_14_method_73_code 89 = .ok (.iload_n 1, 1) := by decide +kernel
theorem em195_90 : decode prog_14_method_73_code 90 = .ok (.iadd, 1) := by decide +kernel
theorem em195_91 : decode prog_14_method_73_code 91 = .ok (.iaload, 1) := by decide +kernel
theorem em195_92 : decode prog_14_method_73_code 92 = .ok (.ireturn, 1) := by decide +kernel
theorem em195_93 : decode prog_14_method_73_code 93 = .ok (.aload_n 0, 1) := by decide +kernel
theorem em195_94 : decode prog_14_method_73_code 94 = .ok (.getfield 116, 3) := by decide +kernel
theorem em195_97 : decode prog_14_method_73_code 97 = .ok (.sipush 320, 3) := by decide +kernel
theorem em195_100 : decode prog_14_method_73_code 100 = .ok (.iload_n 1, 1) := by decide +kernel
theorem em195_101 : decode prog_14_method_73_code 101 = .ok (.iadd, 1) := by decide +kernel
theorem em195_102 : decode prog_14_method_73_code 102 = .ok (.iaload, 1) := by decide +kernel
theorem em195_103 : decode prog_14_method_73_code 103 = .ok (.ireturn, 1) := by decide +kernel
theorem em195_104 : decode prog_14_method_73_code 104 = .ok (.aload_n 0, 1) := by decide +kernel
theorem em195_105 : decode prog_14_method_73_code 105 = .ok (.iload_n 1, 1) := by decide +kernel
theorem em195_106 : decode prog_14_method_73_code 106 = .ok (.invokevirtual 386, 3) := by decide +kernel
theorem em195_109 : decode prog_14_method_73_code 109 = .ok (.ireturn, 1) := by decide +kernel
theorem em195_110 : decode prog_14_method_73_code 110 = .ok (.iconst (-1), 1) := by decide +kernel
theorem em195_111 : decode prog_14_method_73_code 111 = .ok (.ireturn, 1) := by decide +kernel
/-! CapitalCaseModel.verse:(II)I -/
noncomputable def zTr_222 : Nat → Option aF := bn 73 (bn 52 (bn 10 (bn 2 (bn 1 (bl 0 (a_aload 0 1)) (bl 1 (a_iload 1 2))) (bn 5 (bl 2 (a_invV zG0 zprot (true, false) zc_181 (zbd 181) (7, 0, 0) 12 2 5)) (bn 8 (bl 5 (a_if 1 10 8)) (bl 8 (a_const (-1) 9))))) (bn 15 (bn 11 (bl 10 (a_aload 0 11)) (bn 14 (bl 11 (a_invV zG0 zprot (true, false) zc_136 (zbd 136) (7, 0, 0) 12 1 14)) (bl 14 (a_iload 2 15)))) (bn 48 (bl 15 (a_tsw 0 [48, 63, 78, 93, 104] 110)) (bn 49 (bl 48 (a_aload 0 49)) (bl 49 (a_getf zG0 zT0 12 38 52)))))) (bn 61 (bn 58 (bn 54 (bl 52 (a_const 7 54)) (bn 55 (bl 54 (a_aload 0 55)) (bl 55 (a_getf zG0 zT0 12 2 58)))) (bn 59 (bl 58 (a_bin fmul 59)) (bn 60 (bl 59 (a_iload 1 60)) (bl 60 (a_bin fadd 61))))) (bn 67 (bn 63 (bl 61 (a_ald zG0 zT0 (true, false) ts0 62)) (bn 64 (bl 63 (a_aload 0 64)) (bl 64 (a_getf zG0 zT0 12 39 67)))) (bn 69 (bl 67 (a_const 7 69)) (bn 70 (bl 69 (a_aload 0 70)) (bl 70 (a_getf zG0 zT0 12 2 73))))))) (bn 90 (bn 79 (bn 75 (bn 74 (bl 73 (a_bin fmul 74)) (bl 74 (a_iload 1 75))) (bn 76 (bl 75 (a_bin fadd 76)) (bn 78 (bl 76 (a_ald zG0 zT0 (true, false) ts0 77)) (bl 78 (a_aload 0 79))))) (bn 85 (bn 82 (bl 79 (a_getf zG0 zT0 12 36 82)) (bn 84 (bl 82 (a_const 7 84)) (bl 84 (a_aload 0 85)))) (bn 88 (bl 85 (a_getf zG0 zT0 12 2 88)) (bn 89 (bl 88 (a_bin fmul 89)) (bl 89 (a_iload 1 90)))))) (bn 101 (bn 94 (bn 91 (bl 90 (a_bin fadd 91)) (bn 93 (bl 91 (a_ald zG0 zT0 (true, false) ts0 92)) (bl 93 (a_aload 0 94)))) (bn 97 (bl 94 (a_getf zG0 zT0 12 0 97)) (bn 100 (bl 97 (a_const 320 100)) (bl 100 (a_iload 1 101))))) (bn 105 (bn 102 (bl 101 (a_bin fadd 102)) (bn 104 (bl 102 (a_ald zG0 zT0 (true, false) ts0 103)) (bl 104 (a_aload 0 105)))) (bn 106 (bl 105 (a_iload 1 106)) (bn 110 (bl 106 (a_invV zG0 zprot (true, false) zc_202 (zbd 202) (7, 0, 0) 12 2 109)) (bl 110 (a_const (-1) 111)))))))
set_option maxRecDepth 100000 in
set_option maxHeartbeats 4000000 in
theorem zTo_222 {pre : zPre} {post : zPost} (H : zTieC pre post) {d : Nat × Nat × Nat} (hd : zLe (7, 0, 0) d) : aTr zG0 zT0 zInv (true, false) PZ zbd pre post d prog_14_method_73_code "CapitalCaseModel" zTr_222 := (xB_n (xB_n (xB_n (xB_n (xB_n (xB_l ⟨_, zs_aload_n em195_0, as_aload⟩) (xB_l ⟨_, zs_iload_n em195_1, as_iload⟩)) (xB_n (xB_l ⟨_, zs_invV (T := TX12) em195_2 zl_181 rfl wd_1678 wd_1680 wd_82 ((congrFun xo_12 417).trans rfl) xm_155, ag_invV H zh_181 hd (by decide)⟩) (xB_n (xB_l ⟨_, zs_ifne em195_5 (t := 10) (by decide), as_if⟩) (xB_l ⟨_, zs_iconst (v := (-1)) em195_8 (by decide +kernel), as_const (by decide +kernel)⟩)))) (xB_n (xB_n (xB_l ⟨_, zs_aload_n em195_10, as_aload⟩) (xB_n (xB_l ⟨_, zs_invV (T := TX12) em195_11 zl_136 rfl wd_1635 wd_1637 wd_73 ((congrFun xo_12 411).trans rfl) xm_129, ag_invV H zh_136 hd (by decide)⟩) (xB_l ⟨_, zs_iload_n em195_14, as_iload⟩))) (xB_n (xB_l ⟨_, zs_tsw (ts := [48, 63, 78, 93, 104]) (df := 110) em195_15 (by decide +kernel) (by decide +kernel) (ztsw (by decide +kernel) (by decide +kernel)), as_tsw⟩) (xB_n (xB_l ⟨_, zs_aload_n em195_48, as_aload⟩) (xB_l ⟨_, zs_getf (T := TX12) (M := 70) (ci := 12) (j := 38) em195_49 rfl inX12 (by decide) wd_1308 ((congrFun xo_12 58).trans rfl), as_getf zTie⟩))))) (xB_n (xB_n (xB_n (xB_l ⟨_, zs_bipush (v := 7) em195_52 (by decide +kernel), as_const (by decide +kernel)⟩) (xB_n (xB_l ⟨_, zs_aload_n em195_54, as_aload⟩) (xB_l ⟨_, zs_getf (T := TX12) (M := 70) (ci := 12) (j := 2) em195_55 rfl inX12 (by decide) wd_1299 ((congrFun xo_12 230).trans rfl), as_getf zTie⟩))) (xB_n (xB_l ⟨_, zs_imul em195_58, as_bin fmul_ok⟩) (xB_n (xB_l ⟨_, zs_iload_n em195_59, as_iload⟩) (xB_l ⟨_, zs_iadd em195_60, as_bin fadd_ok⟩)))) (xB_n (xB_n (xB_l ⟨_, zs_iald em195_61, ag_iald⟩) (xB_n (xB_l ⟨_, zs_aload_n em195_63, as_aload⟩) (xB_l ⟨_, zs_getf (T := TX12) (M := 70) (ci := 12) (j := 39) em195_64 rfl inX12 (by decide) wd_1309 ((congrFun xo_12 61).trans rfl), as_getf zTie⟩))) (xB_n (xB_l ⟨_, zs_bipush (v := 7) em195_67 (by decide +kernel), as_const (by decide +kernel)⟩) (xB_n (xB_l ⟨_, zs_aload_n em195_69, as_aload⟩) (xB_l ⟨_, zs_getf (T := TX12) (M := 70) (ci := 12) (j := 2) em195_70 rfl inX12 (by decide) wd_1299 ((congrFun xo_12 230).trans rfl), as_getf zTie⟩)))))) (xB_n (xB_n (xB_n (xB_n (xB_l ⟨_, zs_imul em195_73, as_bin fmul_ok⟩) (xB_l ⟨_, zs_iload_n em195_74, as_iload⟩)) (xB_n (xB_l ⟨_, zs_iadd em195_75, as_bin fadd_ok⟩) (xB_n (xB_l ⟨_, zs_iald em195_76, ag_iald⟩) (xB_l ⟨_, zs_aload_n em195_78, as_aload⟩)))) (xB_n (xB_n (xB_l ⟨_, zs_getf (T := TX12) (M := 70) (ci := 12) (j := 36) em195_79 rfl inX12 (by decide) wd_1306 ((congrFun xo_12 52).trans rfl), as_getf zTie⟩) (xB_n (xB_l ⟨_, zs_bipush (v := 7) em195_82 (by decide +kernel), as_const (by decide +kernel)⟩) (xB_l ⟨_, zs_aload_n em195_84, as_aload⟩))) (xB_n (xB_l ⟨_, zs_getf (T := TX12) (M := 70) (ci := 12) (j := 2) em195_85 rfl inX12 (by decide) wd_1299 ((congrFun xo_12 230).trans rfl), as_getf zTie⟩) (xB_n (xB_l ⟨_, zs_imul em195_88, as_bin fmul_ok⟩) (xB_l ⟨_, zs_iload_n em195_89, as_iload⟩))))) (xB_n (xB_n (xB_n (xB_l ⟨_, zs_iadd em195_90, as_bin fadd_ok⟩) (xB_n (xB_l ⟨_, zs_iald em195_91, ag_iald⟩) (xB_l ⟨_, zs_aload_n em195_93, as_aload⟩))) (xB_n (xB_l ⟨_, zs_getf (T := TX12) (M := 70) (ci := 12) (j := 0) em195_94 rfl inX12 (by decide) wd_1332 ((congrFun xo_12 116).trans rfl), as_getf zTie⟩) (xB_n (xB_l ⟨_, zs_sipush (v := 320) em195_97 (by decide +kernel), as_const (by decide +kernel)⟩) (xB_l ⟨_, zs_iload_n em195_100, as_iload⟩)))) (xB_n (xB_n (xB_l ⟨_, zs_iadd em195_101, as_bin fadd_ok⟩) (xB_n (xB_l ⟨_, zs_iald em195_102, ag_iald⟩) (xB_l ⟨_, zs_aload_n em195_104, as_aload⟩))) (xB_n (xB_l ⟨_, zs_iload_n em195_105, as_iload⟩) (xB_n (xB_l ⟨_, zs_invV (T := TX12) em195_106 zl_202 rfl wd_1682 wd_1684 wd_83 ((congrFun xo_12 386).trans rfl) xm_175, ag_invV H zh_202 hd (by decide)⟩) (xB_l ⟨_, zs_iconst (v := (-1)) em195_110 (by decide +kernel), as_const (by decide +kernel)⟩)))))))
set_option maxRecDepth 100000 in
set_option maxHeartbeats 4000000 in
theorem zM_222 : zOKa 222 zc_222 := z_auto (cuts := []) (rets := [(9, 1), (62, 1), (77, 1), (92, 1), (103, 1), (109, 1), (111, 1)]) (fuel := 1000) rfl rfl (by decide) (xrt_ok (xR_c (Or.inl ⟨rfl, em195_9, rfl⟩) (xR_c (Or.inl ⟨rfl, em195_62, rfl⟩) (xR_c (Or.inl ⟨rfl, em195_77, rfl⟩) (xR_c (Or.inl ⟨rfl, em195_92, rfl⟩) (xR_c (Or.inl ⟨rfl, em195_103, rfl⟩) (xR_c (Or.inl ⟨rfl, em195_109, rfl⟩) (xR_c (Or.inl ⟨rfl, em195_111, rfl⟩) (xR_n))))))))) (fun _ _ H _ hd => zTo_222 H hd) (by decide +kernel)
theorem em196_0 : decode prog_14_method_114_code 0 = .ok (.iconst 0, 1) := by decide +kernel
theorem em196_1 : decode prog_14_method_114_code 1 = .ok (.istore_n 3, 1) := by decide +kernel
theorem em196_2 : decode prog_14_method_114_code 2 = .ok (.iconst 0, 1) := by decide +kernel
theorem em196_3 : decode prog_14_method_114_code 3 = .ok (.istore 4, 2) := by decide +kernel
theorem em196_5 : decode prog_14_method_114_code 5 = .ok (.iload 4, 2) := by decide +kernel
theorem em196_7 : decode prog_14_method_114_code 7 = .ok (.aload_n 0, 1) := by decide +kernel
theorem em196_8 : decode prog_14_method_114_code 8 = .ok (.getfield 49, 3) := by decide +kernel
theorem em196_11 : decode prog_14_method_114_code 11 = .ok (.aload_n 0, 1) := by decide +kernel
theorem em196_12 : decode prog_14_method_114_code 12 = .ok (.getfield 230, 3) := by decide +kernel
theorem em196_15 : decode prog_14_method_114_code 15 = .ok (.iaload, 1) := by decide +kernel
theorem em196_16 : decode prog_14_method_114_code 16 = .ok (.if_icmp .ge 35, 3) := by decide +kernel
theorem em196_19 : decode prog_14_method_114_code 19 = .ok (.aload_n 0, 1) := by decide +kernel
theorem em196_20 : decode prog_14_method_114_code 20 = .ok (.getfield 113, 3) := by decide +kernel
theorem em196_23 : decode prog_14_method_114_code 23 = .ok (.sipush 320, 3) := by decide +kernel
theorem em196_26 : decode prog_14_method_114_code 26 = .ok (.iload 4, 2) := by decide +kernel
theorem em196_28 : decode prog_14_method_114_code 28 = .ok (.iadd, 1) := by decide +kernel
theorem em196_29 : decode prog_14_method_114_code 29 = .ok (.iaload, 1) := by decide +kernel
theorem em196_30 : decode prog_14_method_114_code 30 = .ok (.iload_n 1, 1) := by decide +kernel
theorem em196_31 : decode prog_14_method_114_code 31 = .ok (.iload_n 2, 1) := by decide +kernel
theorem em196_32 : decode prog_14_method_114_code 32 = .ok (.invokestatic 324, 3) := by decide +kernel
theorem em196_35 : decode prog_14_method_114_code 35 = .ok (.ifCond .eq 10, 3) := by decide +kernel
theorem em196_38 : decode prog_14_method_114_code 38 = .ok (.iload_n 3, 1) := by decide +kernel
theorem em196_39 : decode prog_14_method_114_code 39 = .ok (.iconst 1, 1) := by decide +kernel
theorem em196_40 : decode prog_14_method_114_code 40 = .ok (.iload 4, 2) := by decide +kernel
theorem em196_42 : decode prog_14_method_114_code 42 = .ok (.ishl, 1) := by decide +kernel
theorem em196_43 : decode prog_14_method_114_code 43 = .ok (.ior, 1) := by decide +kernel
theorem em196_44 : decode prog_14_method_114_code 44 = .ok (.istore_n 3, 1) := by decide +kernel
theorem em196_45 : decode prog_14_method_114_code 45 = .ok (.iinc 4 1, 3) := by decide +kernel
theorem em196_48 : decode prog_14_method_114_code 48 = .ok (.goto (-43), 3) := by decide +kernel
theorem em196_51 : decode prog_14_method_114_code 51 = .ok (.iload_n 3, 1) := by decide +kernel
theorem em196_52 : decode prog_14_method_114_code 52 = .ok (.ireturn, 1) := by decide +kernel
/-! CapitalCaseModel.versesSo:(II)I -/
noncomputable def zTr_223 : Nat → Option aF := bn 28 (bn 11 (bn 3 (bn 1 (bl 0 (a_const 0 1)) (bn 2 (bl 1 (a_istore 3 2)) (bl 2 (a_const 0 3)))) (bn 7 (bn 5 (bl 3 (a_istore 4 5)) (bl 5 (a_iload 4 7))) (bn 8 (bl 7 (a_aload 0 8)) (bl 8 (a_getf zG0 zT0 12 4 11))))) (bn 19 (bn 15 (bn 12 (bl 11 (a_aload 0 12)) (bl 12 (a_getf zG0 zT0 12 2 15))) (bn 16 (bl 15 (a_ald zG0 zT0 (true, false) ts0 16)) (bl 16 (a_icmp 3 51 19)))) (bn 23 (bn 20 (bl 19 (a_aload 0 20)) (bl 20 (a_getf zG0 zT0 12 1 23))) (bn 26 (bl 23 (a_const 320 26)) (bl 26 (a_iload 4 28)))))) (bn 39 (bn 31 (bn 29 (bl 28 (a_bin fadd 29)) (bn 30 (bl 29 (a_ald zG0 zT0 (true, false) ts0 30)) (bl 30 (a_iload 1 31)))) (bn 35 (bn 32 (bl 31 (a_iload 2 32)) (bl 32 (a_inv zG0 zprot (true, false) zc_170 (zbd 170) (1, 0, 0) 3 35))) (bn 38 (bl 35 (a_if 0 45 38)) (bl 38 (a_iload 3 39))))) (bn 44 (bn 42 (bn 40 (bl 39 (a_const 1 40)) (bl 40 (a_iload 4 42))) (bn 43 (bl 42 (a_bin fshl 43)) (bl 43 (a_bin fany 44)))) (bn 48 (bn 45 (bl 44 (a_istore 3 45)) (bl 45 (a_iinc 4 1 48))) (bn 51 (bl 48 (a_goto 5)) (bl 51 (a_iload 3 52))))))
set_option maxRecDepth 100000 in
set_option maxHeartbeats 4000000 in
theorem zTo_223 {pre : zPre} {post : zPost} (H : zTieC pre post) {d : Nat × Nat × Nat} (hd : zLe (1, 0, 0) d) : aTr zG0 zT0 zInv (true, false) PZ zbd pre post d prog_14_method_114_code "CapitalCaseModel" zTr_223 := (xB_n (xB_n (xB_n (xB_n (xB_l ⟨_, zs_iconst (v := 0) em196_0 (by decide +kernel), as_const (by decide +kernel)⟩) (xB_n (xB_l ⟨_, zs_istore_n em196_1, as_istore⟩) (xB_l ⟨_, zs_iconst (v := 0) em196_2 (by decide +kernel), as_const (by decide +kernel)⟩))) (xB_n (xB_n (xB_l ⟨_, zs_istore em196_3, as_istore⟩) (xB_l ⟨_, zs_iload em196_5, as_iload⟩)) (xB_n (xB_l ⟨_, zs_aload_n em196_7, as_aload⟩) (xB_l ⟨_, zs_getf (T := TX12) (M := 70) (ci := 12) (j := 4) em196_8 rfl inX12 (by decide) wd_1305 ((congrFun xo_12 49).trans rfl), as_getf zTie⟩)))) (xB_n (xB_n (xB_n (xB_l ⟨_, zs_aload_n em196_11, as_aload⟩) (xB_l ⟨_, zs_getf (T := TX12) (M := 70) (ci := 12) (j := 2) em196_12 rfl inX12 (by decide) wd_1299 ((congrFun xo_12 230).trans rfl), as_getf zTie⟩)) (xB_n (xB_l ⟨_, zs_iald em196_15, ag_iald⟩) (xB_l ⟨_, zs_icmpge em196_16 (t := 51) (by decide), as_icmp⟩))) (xB_n (xB_n (xB_l ⟨_, zs_aload_n em196_19, as_aload⟩) (xB_l ⟨_, zs_getf (T := TX12) (M := 70) (ci := 12) (j := 1) em196_20 rfl inX12 (by decide) wd_1331 ((congrFun xo_12 113).trans rfl), as_getf zTie⟩)) (xB_n (xB_l ⟨_, zs_sipush (v := 320) em196_23 (by decide +kernel), as_const (by decide +kernel)⟩) (xB_l ⟨_, zs_iload em196_26, as_iload⟩))))) (xB_n (xB_n (xB_n (xB_l ⟨_, zs_iadd em196_28, as_bin fadd_ok⟩) (xB_n (xB_l ⟨_, zs_iald em196_29, ag_iald⟩) (xB_l ⟨_, zs_iload_n em196_30, as_iload⟩))) (xB_n (xB_n (xB_l ⟨_, zs_iload_n em196_31, as_iload⟩) (xB_l ⟨_, zs_invS em196_32 zl_170 wd_1629 wd_1630 ((congrFun xo_12 324).trans rfl) xm_148, ag_inv H zh_170 hd (by decide)⟩)) (xB_n (xB_l ⟨_, zs_ifeq em196_35 (t := 45) (by decide), as_if⟩) (xB_l ⟨_, zs_iload_n em196_38, as_iload⟩)))) (xB_n (xB_n (xB_n (xB_l ⟨_, zs_iconst (v := 1) em196_39 (by decide +kernel), as_const (by decide +kernel)⟩) (xB_l ⟨_, zs_iload em196_40, as_iload⟩)) (xB_n (xB_l ⟨_, zs_ishl em196_42, as_bin fshl_ok⟩) (xB_l ⟨_, zs_ior em196_43, as_bin fany_ok⟩))) (xB_n (xB_n (xB_l ⟨_, zs_istore_n em196_44, as_istore⟩) (xB_l ⟨_, zs_iinc (k := 1) em196_45 (by decide +kernel), as_iinc (by decide +kernel)⟩)) (xB_n (xB_l ⟨_, zs_goto em196_48 (t := 5) (by decide), as_goto⟩) (xB_l ⟨_, zs_iload_n em196_51, as_iload⟩))))))
set_option maxRecDepth 100000 in
set_option maxHeartbeats 4000000 in
theorem zM_223 : zOKa 223 zc_223 := z_auto (cuts := [(5, ([(0, 0), (1, 2), (2, 3), (0, 1), ((-2147483648), 2147483647), (0, 7)], [], [some (.inr (.inl (0, 75))), some (.inl (1, 0)), some (.inl (2, 0)), some (.inl (4, 0)), some (.inl (5, 0))], [], [(22, 3, 0)], (0, 0)), [(0, 3), (0, 4)], 7, [0, 0, 0, 0, 0, (-1)])]) (rets := [(52, 1)]) (fuel := 1000) rfl rfl (by decide) (xrt_ok (xR_c (Or.inl ⟨rfl, em196_52, rfl⟩) (xR_n))) (fun _ _ H _ hd => zTo_223 H hd) (by decide +kernel)
theorem em197_0 : decode prog_14_method_74_code 0 = .ok (.aload_n 0, 1) := by decide +kernel
theorem em197_1 : decode prog_14_method_74_code 1 = .ok (.iload_n 1, 1) := by decide +kernel
theorem em197_2 : decode prog_14_method_74_code 2 = .ok (.invokevirtual 417, 3) := by decide +kernel
theorem em197_5 : decode prog_14_method_74_code 5 = .ok (.ifCond .eq 49, 3) := by decide +kernel
theorem em197_8 : decode prog_14_method_74_code 8 = .ok (.iload_n 2, 1) := by decide +kernel
theorem em197_9 : decode prog_14_method_74_code 9 = .ok (.iconst 0, 1) := by decide +kernel
theorem em197_10 : decode prog_14_method_74_code 10 = .ok (.aload_n 0, 1) := by decide +kernel
theorem em197_11 : decode prog_14_method_74_code 11 = .ok (.getfield 52, 3) := by decide +kernel
theorem em197_14 : decode prog_14_method_74_code 14 = .ok (.bipush 7, 2) := by decide +kernel
theorem em197_16 : decode prog_14_method_74_code 16 = .ok (.aload_n 0, 1) := by decide +kernel
theorem em197_17 : decode prog_14_method_74_code 17 = .ok (.getfield 230, 3) := by decide +kernel
theorem em197_20 : decode prog_14_method_74_code 20 = .ok (.imul, 1) := by decide +kernel
theorem em197_21 : decode prog_14_method_74_code 21 = .ok (.iload_n 1, 1) := by decide +kernel
theorem em197_22 : decode prog_14_method_74_code 22 = .ok (.iadd, 1) := by decide +kernel
theorem em197_23 : decode prog_14_method_74_code 23 = .ok (.iaload, 1) := by decide +kernel
theorem em197_24 : decode prog_14_method_74_code 24 = .ok (.iconst 1, 1) := by decide +kernel
theorem em197_25 : decode prog_14_method_74_code 25 = .ok (.isub, 1) := by decide +kernel
theorem em197_26 : decode prog_14_method_74_code 26 = .ok (.invokestatic 324, 3) := by decide +kernel
theorem em197_29 : decode prog_14_method_74_code 29 = .ok (.ifCond .eq 25, 3) := by decide +kernel
theorem em197_32 : decode prog_14_method_74_code 32 = .ok (.aload_n 0, 1) := by decide +kernel
theorem em197_33 : decode prog_14_method_74_code 33 = .ok (.getfield 55, 3) := by decide +kernel
theorem em197_36 : decode prog_14_method_74_code 36 = .ok (.bipush 8, 2) := by decide +kernel
theorem em197_38 : decode prog_14_method_74_code 38 = .ok (.bipush 7, 2) := by decide +kernel
theorem em197_40 : decode prog_14_method_74_code 40 = .ok (.aload_n 0, 1) := by decide +kernel
theorem em197_41 : decode prog_14_method_74_code 41 = .ok (.getfield 230, 3) := by decide +kernel
theorem em197_44 : decode prog_14_method_74_code 44 = .ok (.imul, 1) := by decide +kernel
theorem em197_45 : decode prog_14_method_74_code 45 = .ok (.iload_n 1, 1) := by decide +kernel
theorem em197_46 : decode prog_14_method_74_code 46 = .ok (.iadd, 1) := by decide +kernel
theorem em197_47 : decode prog_14_method_74_code 47 = .ok (.imul, 1) := by decide +kernel
theorem em197_48 : decode prog_14_method_74_code 48 = .ok (.iload_n 2, 1) := by decide +kernel
theorem em197_49 : decode prog_14_method_74_code 49 = .ok (.iadd, 1) := by decide +kernel
theorem em197_50 : decode prog_14_method_74_code 50 = .ok (.iaload, 1) := by decide +kernel
theorem em197_51 : decode prog_14_method_74_code 51 = .ok (.goto 4, 3) := by decide +kernel
theorem em197_54 : decode prog_14_method_74_code 54 = .ok (.iconst (-1), 1) := by decide +kernel
theorem em197_55 : decode prog_14_method_74_code 55 = .ok (.ireturn, 1) := by decide +kernel
/-! CapitalCaseModel.wants:(II)I -/
noncomputable def zTr_224 : Nat → Option aF := bn 26 (bn 14 (bn 8 (bn 2 (bn 1 (bl 0 (a_aload 0 1)) (bl 1 (a_iload 1 2))) (bn 5 (bl 2 (a_invV zG0 zprot (true, false) zc_181 (zbd 181) (2, 0, 0) 12 2 5)) (bl 5 (a_if 0 54 8)))) (bn 10 (bn 9 (bl 8 (a_iload 2 9)) (bl 9 (a_const 0 10))) (bn 11 (bl 10 (a_aload 0 11)) (bl 11 (a_getf zG0 zT0 12 36 14))))) (bn 21 (bn 17 (bn 16 (bl 14 (a_const 7 16)) (bl 16 (a_aload 0 17))) (bn 20 (bl 17 (a_getf zG0 zT0 12 2 20)) (bl 20 (a_bin fmul 21)))) (bn 23 (bn 22 (bl 21 (a_iload 1 22)) (bl 22 (a_bin fadd 23))) (bn 24 (bl 23 (a_ald zG0 zT0 (true, false) ts0 24)) (bn 25 (bl 24 (a_const 1 25)) (bl 25 (a_bin fsub 26))))))) (bn 44 (bn 36 (bn 32 (bn 29 (bl 26 (a_inv zG0 zprot (true, false) zc_171 (zbd 171) (2, 0, 0) 3 29)) (bl 29 (a_if 0 54 32))) (bn 33 (bl 32 (a_aload 0 33)) (bl 33 (a_getf zG0 zT0 12 37 36)))) (bn 40 (bn 38 (bl 36 (a_const 8 38)) (bl 38 (a_const 7 40))) (bn 41 (bl 40 (a_aload 0 41)) (bl 41 (a_getf zG0 zT0 12 2 44))))) (bn 48 (bn 46 (bn 45 (bl 44 (a_bin fmul 45)) (bl 45 (a_iload 1 46))) (bn 47 (bl 46 (a_bin fadd 47)) (bl 47 (a_bin fmul 48)))) (bn 50 (bn 49 (bl 48 (a_iload 2 49)) (bl 49 (a_bin fadd 50))) (bn 51 (bl 50 (a_ald zG0 zT0 (true, false) ts0 51)) (bn 54 (bl 51 (a_goto 55)) (bl 54 (a_const (-1) 55)))))))
set_option maxRecDepth 100000 in
set_option maxHeartbeats 4000000 in
theorem zTo_224 {pre : zPre} {post : zPost} (H : zTieC pre post) {d : Nat × Nat × Nat} (hd : zLe (2, 0, 0) d) : aTr zG0 zT0 zInv (true, false) PZ zbd pre post d prog_14_method_74_code "CapitalCaseModel" zTr_224 := (xB_n (xB_n (xB_n (xB_n (xB_n (xB_l ⟨_, zs_aload_n em197_0, as_aload⟩) (xB_l ⟨_, zs_iload_n em197_1, as_iload⟩)) (xB_n (xB_l ⟨_, zs_invV (T := TX12) em197_2 zl_181 rfl wd_1678 wd_1680 wd_82 ((congrFun xo_12 417).trans rfl) xm_155, ag_invV H zh_181 hd (by decide)⟩) (xB_l ⟨_, zs_ifeq em197_5 (t := 54) (by decide), as_if⟩))) (xB_n (xB_n (xB_l ⟨_, zs_iload_n em197_8, as_iload⟩) (xB_l ⟨_, zs_iconst (v := 0) em197_9 (by decide +kernel), as_const (by decide +kernel)⟩)) (xB_n (xB_l ⟨_, zs_aload_n em197_10, as_aload⟩) (xB_l ⟨_, zs_getf (T := TX12) (M := 70) (ci := 12) (j := 36) em197_11 rfl inX12 (by decide) wd_1306 ((congrFun xo_12 52).trans rfl), as_getf zTie⟩)))) (xB_n (xB_n (xB_n (xB_l ⟨_, zs_bipush (v := 7) em197_14 (by decide +kernel), as_const (by decide +kernel)⟩) (xB_l ⟨_, zs_aload_n em197_16, as_aload⟩)) (xB_n (xB_l ⟨_, zs_getf (T := TX12) (M := 70) (ci := 12) (j := 2) em197_17 rfl inX12 (by decide) wd_1299 ((congrFun xo_12 230).trans rfl), as_getf zTie⟩) (xB_l ⟨_, zs_imul em197_20, as_bin fmul_ok⟩))) (xB_n (xB_n (xB_l ⟨_, zs_iload_n em197_21, as_iload⟩) (xB_l ⟨_, zs_iadd em197_22, as_bin fadd_ok⟩)) (xB_n (xB_l ⟨_, zs_iald em197_23, ag_iald⟩) (xB_n (xB_l ⟨_, zs_iconst (v := 1) em197_24 (by decide +kernel), as_const (by decide +kernel)⟩) (xB_l ⟨_, zs_isub em197_25, as_bin fsub_ok⟩)))))) (xB_n (xB_n (xB_n (xB_n (xB_l ⟨_, zs_invS em197_26 zl_171 wd_1629 wd_1630 ((congrFun xo_12 324).trans rfl) xm_148, ag_inv H zh_171 hd (by decide)⟩) (xB_l ⟨_, zs_ifeq em197_29 (t := 54) (by decide), as_if⟩)) (xB_n (xB_l ⟨_, zs_aload_n em197_32, as_aload⟩) (xB_l ⟨_, zs_getf (T := TX12) (M := 70) (ci := 12) (j := 37) em197_33 rfl inX12 (by decide) wd_1307 ((congrFun xo_12 55).trans rfl), as_getf zTie⟩))) (xB_n (xB_n (xB_l ⟨_, zs_bipush (v := 8) em197_36 (by decide +kernel), as_const (by decide +kernel)⟩) (xB_l ⟨_, zs_bipush (v := 7) em197_38 (by decide +kernel), as_const (by decide +kernel)⟩)) (xB_n (xB_l ⟨_, zs_aload_n em197_40, as_aload⟩) (xB_l ⟨_, zs_getf (T := TX12) (M := 70) (ci := 12) (j := 2) em197_41 rfl inX12 (by decide) wd_1299 ((congrFun xo_12 230).trans rfl), as_getf zTie⟩)))) (xB_n (xB_n (xB_n (xB_l ⟨_, zs_imul em197_44, as_bin fmul_ok⟩) (xB_l ⟨_, zs_iload_n em197_45, as_iload⟩)) (xB_n (xB_l ⟨_, zs_iadd em197_46, as_bin fadd_ok⟩) (xB_l ⟨_, zs_imul em197_47, as_bin fmul_ok⟩))) (xB_n (xB_n (xB_l ⟨_, zs_iload_n em197_48, as_iload⟩) (xB_l ⟨_, zs_iadd em197_49, as_bin fadd_ok⟩)) (xB_n (xB_l ⟨_, zs_iald em197_50, ag_iald⟩) (xB_n (xB_l ⟨_, zs_goto em197_51 (t := 55) (by decide), as_goto⟩) (xB_l ⟨_, zs_iconst (v := (-1)) em197_54 (by decide +kernel), as_const (by decide +kernel)⟩)))))))
set_option maxRecDepth 100000 in
set_option maxHeartbeats 4000000 in
theorem zM_224 : zOKa 224 zc_224 := z_auto (cuts := []) (rets := [(55, 1)]) (fuel := 1000) rfl rfl (by decide) (xrt_ok (xR_c (Or.inl ⟨rfl, em197_55, rfl⟩) (xR_n))) (fun _ _ H _ hd => zTo_224 H hd) (by decide +kernel)
theorem em198_0 : decode prog_14_method_68_code 0 = .ok (.aload_n 0, 1) := by decide +kernel
theorem em198_1 : decode prog_14_method_68_code 1 = .ok (.getfield 119, 3) := by decide +kernel
theorem em198_4 : decode prog_14_method_68_code 4 = .ok (.iload_n 1, 1) := by decide +kernel
theorem em198_5 : decode prog_14_method_68_code 5 = .ok (.iconst 0, 1) := by decide +kernel
theorem em198_6 : decode prog_14_method_68_code 6 = .ok (.bastore, 1) := by decide +kernel
theorem em198_7 : decode prog_14_method_68_code 7 = .ok (.aload_n 0, 1) := by decide +kernel
theorem em198_8 : decode prog_14_method_68_code 8 = .ok (.getfield 116, 3) := by decide +kernel
theorem em198_11 : decode prog_14_method_68_code 11 = .ok (.bipush 40, 2) := by decide +kernel
theorem em198_13 : decode prog_14_method_68_code 13 = .ok (.iload_n 1, 1) := by decide +kernel
theorem em198_14 : decode prog_14_method_68_code 14 = .ok (.iadd, 1) := by decide +kernel
theorem em198_15 : decode prog_14_method_68_code 15 = .ok (.iaload, 1) := by decide +kernel
theorem em198_16 : decode prog_14_method_68_code 16 = .ok (.ifCond .ne 4, 3) := by decide +kernel
theorem em198_19 : decode prog_14_method_68_code 19 = .ok (.return_, 1) := by decide +kernel
theorem em198_20 : decode prog_14_method_68_code 20 = .ok (.aload_n 0, 1) := by decide +kernel
theorem em198_21 : decode prog_14_method_68_code 21 = .ok (.getfield 116, 3) := by decide +kernel
theorem em198_24 : decode prog_14_method_68_code 24 = .ok (.bipush 80, 2) := by decide +kernel
theorem em198_26 : decode prog_14_method_68_code 26 = .ok (.iload_n 1, 1) := by decide +kernel
theorem em198_27 : decode prog_14_method_68_code 27 = .ok (.iadd, 1) := by decide +kernel
theorem em198_28 : decode prog_14_method_68_code 28 = .ok (.aload_n 0, 1) := by decide +kernel
theorem em198_29 : decode prog_14_method_68_code 29 = .ok (.getfield 116, 3) := by decide +kernel
theorem em198_32 : decode prog_14_method_68_code 32 = .ok (.bipush 80, 2) := by decide +kernel
theorem em198_34 : decode prog_14_method_68_code 34 = .ok (.iload_n 1, 1) := by decide +kernel
theorem em198_35 : decode prog_14_method_68_code 35 = .ok (.iadd, 1) := by decide +kernel
theorem em198_36 : decode prog_14_method_68_code 36 = .ok (.iaload, 1) := by decide +kernel
theorem em198_37 : decode prog_14_method_68_code 37 = .ok (.aload_n 0, 1) := by decide +kernel
theorem em198_38 : decode prog_14_method_68_code 38 = .ok (.getfield 116, 3) := by decide +kernel
theorem em198_41 : decode prog_14_method_68_code 41 = .ok (.bipush 40, 2) := by decide +kernel
theorem em198_43 : decode prog_14_method_68_code 43 = .ok (.iload_n 1, 1) := by decide +kernel
theorem em198_44 : decode prog_14_method_68_code 44 = .ok (.iadd, 1) := by decide +kernel
theorem em198_45 : decode prog_14_method_68_code 45 = .ok (.iaload, 1) := by decide +kernel
theorem em198_46 : decode prog_14_method_68_code 46 = .ok (.aload_n 0, 1) := by decide +kernel
theorem em198_47 : decode prog_14_method_68_code 47 = .ok (.getfield 122, 3) := by decide +kernel
theorem em198_50 : decode prog_14_method_68_code 50 = .ok (.iload_n 1, 1) := by decide +kernel
theorem em198_51 : decode prog_14_method_68_code 51 = .ok (.iaload, 1) := by decide +kernel
theorem em198_52 : decode prog_14_method_68_code 52 = .ok (.imul, 1) := by decide +kernel
theorem em198_53 : decode prog_14_method_68_code 53 = .ok (.iadd, 1) := by decide +kernel
theorem em198_54 : decode prog_14_method_68_code 54 = .ok (.iconst 0, 1) := by decide +kernel
theorem em198_55 : decode prog_14_method_68_code 55 = .ok (.sipush 999, 3) := by decide +kernel
theorem em198_58 : decode prog_14_method_68_code 58 = .ok (.invokestatic 362, 3) := by decide +kernel
theorem em198_61 : decode prog_14_method_68_code 61 = .ok (.iastore, 1) := by decide +kernel
theorem em198_62 : decode prog_14_method_68_code 62 = .ok (.aload_n 0, 1) := by decide +kernel
theorem em198_63 : decode prog_14_method_68_code 63 = .ok (.getfield 116, 3) := by decide +kernel
theorem em198_66 : decode prog_14_method_68_code 66 = .ok (.bipush 80, 2) := by decide +kernel
theorem em198_68 : decode prog_14_method_68_code 68 = .ok (.iload_n 1, 1) := by decide +kernel
theorem em198_69 : decode prog_14_method_68_code 69 = .ok (.iadd, 1) := by decide +kernel
theorem em198_70 : decode prog_14_method_68_code 70 = .ok (.iaload, 1) := by decide +kernel
theorem em198_71 : decode prog_14_method_68_code 71 = .ok (.aload_n 0, 1) := by decide +kernel
theorem em198_72 : decode prog_14_method_68_code 72 = .ok (.getfield 64, 3) := by decide +kernel
theorem em198_75 : decode prog_14_method_68_code 75 = .ok (.aload_n 0, 1) := by decide +kernel
theorem em198_76 : decode prog_14_method_68_code 76 = .ok (.getfield 230, 3) := by decide +kernel
theorem em198_79 : decode prog_14_method_68_code 79 = .ok (.iaload, 1) := by decide +kernel
theorem em198_80 : decode prog_14_method_68_code 80 = .ok (.if_icmp .ge 4, 3) := by decide +kernel
theorem em198_83 : decode prog_14_method_68_code 83 = .ok (.return_, 1) := by decide +kernel
theorem em198_84 : decode prog_14_method_68_code 84 = .ok (.aload_n 0, 1) := by decide +kernel
theorem em198_85 : decode prog_14_method_68_code 85 = .ok (.getfield 116, 3) := by decide +kernel
theorem em198_88 : decode prog_14_method_68_code 88 = .ok (.bipush 80, 2) := by decide +kernel
theorem em198_90 : decode prog_14_method_68_code 90 = .ok (.iload_n 1, 1) := by decide +kernel
theorem em198_91 : decode prog_14_method_68_code 91 = .ok (.iadd, 1) := by decide +kernel
theorem em198_92 : decode prog_14_method_68_code 92 = .ok (.iconst 0, 1) := by decide +kernel
theorem em198_93 : decode prog_14_method_68_code 93 = .ok (.iastore, 1) := by decide +kernel
theorem em198_94 : decode prog_14_method_68_code 94 = .ok (.aload_n 0, 1) := by decide +kernel
theorem em198_95 : decode prog_14_method_68_code 95 = .ok (.getfield 116, 3) := by decide +kernel
theorem em198_98 : decode prog_14_method_68_code 98 = .ok (.iload_n 1, 1) := by decide +kernel
theorem em198_99 : decode prog_14_method_68_code 99 = .ok (.iaload, 1) := by decide +kernel
theorem em198_100 : decode prog_14_method_68_code 100 = .ok (.ifCond .ne 4, 3) := by decide +kernel
theorem em198_103 : decode prog_14_method_68_code 103 = .ok (.return_, 1) := by decide +kernel
theorem em198_104 : decode prog_14_method_68_code 104 = .ok (.aload_n 0, 1) := by decide +kernel
theorem em198_105 : decode prog_14_method_68_code 105 = .ok (.getfield 116, 3) := by decide +kernel
theorem em198_108 : decode prog_14_method_68_code 108 = .ok (.iload_n 1, 1) := by decide +kernel
theorem em198_109 : decode prog_14_method_68_code 109 = .ok (.dup2, 1) := by decide +kernel
theorem em198_110 : decode prog_14_method_68_code 110 = .ok (.iaload, 1) := by decide +kernel
theorem em198_111 : decode prog_14_method_68_code 111 = .ok (.iconst 1, 1) := by decide +kernel
theorem em198_112 : decode prog_14_method_68_code 112 = .ok (.isub, 1) := by decide +kernel
theorem em198_113 : decode prog_14_method_68_code 113 = .ok (.iastore, 1) := by decide +kernel
theorem em198_114 : decode prog_14_method_68_code 114 = .ok (.aload_n 0, 1) := by decide +kernel
theorem em198_115 : decode prog_14_method_68_code 115 = .ok (.getfield 116, 3) := by decide +kernel
theorem em198_118 : decode prog_14_method_68_code 118 = .ok (.sipush 388, 3) := by decide +kernel
theorem em198_121 : decode prog_14_method_68_code 121 = .ok (.dup2, 1) := by decide +kernel
theorem em198_122 : decode prog_14_method_68_code 122 = .ok (.iaload, 1) := by decide +kernel
theorem em198_123 : decode prog_14_method_68_code 123 = .ok (.iconst 1, 1) := by decide +kernel
theorem em198_124 : decode prog_14_method_68_code 124 = .ok (.iadd, 1) := by decide +kernel
theorem em198_125 : decode prog_14_method_68_code 125 = .ok (.iastore, 1) := by decide +kernel
theorem em198_126 : decode prog_14_method_68_code 126 = .ok (.aload_n 0, 1) := by decide +kernel
theorem em198_127 : decode prog_14_method_68_code 127 = .ok (.getfield 119, 3) := by decide +kernel
theorem em198_130 : decode prog_14_method_68_code 130 = .ok (.iload_n 1, 1) := by decide +kernel
theorem em198_131 : decode prog_14_method_68_code 131 = .ok (.iconst 1, 1) := by decide +kernel
theorem em198_132 : decode prog_14_method_68_code 132 = .ok (.bastore, 1) := by decide +kernel
theorem em198_133 : decode prog_14_method_68_code 133 = .ok (.return_, 1) := by decide +kernel
/-! CapitalCaseModel.wears:(I)V -/
noncomputable def zTr_225 : Nat → Option aF := bn 68 (bn 35 (bn 15 (bn 7 (bn 4 (bn 1 (bl 0 (a_aload 0 1)) (bl 1 (a_getf zG0 zT0 12 60 4))) (bn 5 (bl 4 (a_iload 1 5)) (bn 6 (bl 5 (a_const 0 6)) (bl 6 (a_ast zG0 zT0 ts12 7))))) (bn 11 (bn 8 (bl 7 (a_aload 0 8)) (bl 8 (a_getf zG0 zT0 12 0 11))) (bn 13 (bl 11 (a_const 40 13)) (bn 14 (bl 13 (a_iload 1 14)) (bl 14 (a_bin fadd 15)))))) (bn 26 (bn 20 (bn 16 (bl 15 (a_ald zG0 zT0 (false, false) ts0 16)) (bl 16 (a_if 1 20 19))) (bn 21 (bl 20 (a_aload 0 21)) (bn 24 (bl 21 (a_getf zG0 zT0 12 0 24)) (bl 24 (a_const 80 26))))) (bn 29 (bn 27 (bl 26 (a_iload 1 27)) (bn 28 (bl 27 (a_bin fadd 28)) (bl 28 (a_aload 0 29)))) (bn 32 (bl 29 (a_getf zG0 zT0 12 0 32)) (bn 34 (bl 32 (a_const 80 34)) (bl 34 (a_iload 1 35))))))) (bn 50 (bn 43 (bn 37 (bn 36 (bl 35 (a_bin fadd 36)) (bl 36 (a_ald zG0 zT0 (false, false) ts0 37))) (bn 38 (bl 37 (a_aload 0 38)) (bn 41 (bl 38 (a_getf zG0 zT0 12 0 41)) (bl 41 (a_const 40 43))))) (bn 45 (bn 44 (bl 43 (a_iload 1 44)) (bl 44 (a_bin fadd 45))) (bn 46 (bl 45 (a_ald zG0 zT0 (false, false) ts0 46)) (bn 47 (bl 46 (a_aload 0 47)) (bl 47 (a_getf zG0 zT0 12 15 50)))))) (bn 55 (bn 52 (bn 51 (bl 50 (a_iload 1 51)) (bl 51 (a_ald zG0 zT0 (false, false) ts0 52))) (bn 53 (bl 52 (a_bin fmul 53)) (bn 54 (bl 53 (a_bin fadd 54)) (bl 54 (a_const 0 55))))) (bn 62 (bn 58 (bl 55 (a_const 999 58)) (bn 61 (bl 58 (a_inv zG0 zprot (false, false) zc_152 (zbd 152) (1, 0, 0) 3 61)) (bl 61 (a_ast zG0 zT0 ts0 62)))) (bn 63 (bl 62 (a_aload 0 63)) (bn 66 (bl 63 (a_getf zG0 zT0 12 0 66)) (bl 66 (a_const 80 68)))))))) (bn 104 (bn 85 (bn 75 (bn 70 (bn 69 (bl 68 (a_iload 1 69)) (bl 69 (a_bin fadd 70))) (bn 71 (bl 70 (a_ald zG0 zT0 (false, false) ts0 71)) (bn 72 (bl 71 (a_aload 0 72)) (bl 72 (a_getf zG0 zT0 12 40 75))))) (bn 79 (bn 76 (bl 75 (a_aload 0 76)) (bl 76 (a_getf zG0 zT0 12 2 79))) (bn 80 (bl 79 (a_ald zG0 zT0 (false, false) ts0 80)) (bn 84 (bl 80 (a_icmp 3 84 83)) (bl 84 (a_aload 0 85)))))) (bn 93 (bn 90 (bn 88 (bl 85 (a_getf zG0 zT0 12 0 88)) (bl 88 (a_const 80 90))) (bn 91 (bl 90 (a_iload 1 91)) (bn 92 (bl 91 (a_bin fadd 92)) (bl 92 (a_const 0 93))))) (bn 98 (bn 94 (bl 93 (a_ast zG0 zT0 ts0 94)) (bn 95 (bl 94 (a_aload 0 95)) (bl 95 (a_getf zG0 zT0 12 0 98)))) (bn 99 (bl 98 (a_iload 1 99)) (bn 100 (bl 99 (a_ald zG0 zT0 (false, false) ts0 100)) (bl 100 (a_if 1 104 103))))))) (bn 118 (bn 111 (bn 108 (bn 105 (bl 104 (a_aload 0 105)) (bl 105 (a_getf zG0 zT0 12 0 108))) (bn 109 (bl 108 (a_iload 1 109)) (bn 110 (bl 109 (a_dup2 110)) (bl 110 (a_ald zG0 zT0 (false, false) ts0 111))))) (bn 113 (bn 112 (bl 111 (a_const 1 112)) (bl 112 (a_bin fsub 113))) (bn 114 (bl 113 (a_ast zG0 zT0 ts0 114)) (bn 115 (bl 114 (a_aload 0 115)) (bl 115 (a_getf zG0 zT0 12 0 118)))))) (bn 125 (bn 122 (bn 121 (bl 118 (a_const 388 121)) (bl 121 (a_dup2 122))) (bn 123 (bl 122 (a_ald zG0 zT0 (false, false) ts0 123)) (bn 124 (bl 123 (a_const 1 124)) (bl 124 (a_bin fadd 125))))) (bn 130 (bn 126 (bl 125 (a_ast zG0 zT0 ts0 126)) (bn 127 (bl 126 (a_aload 0 127)) (bl 127 (a_getf zG0 zT0 12 60 130)))) (bn 131 (bl 130 (a_iload 1 131)) (bn 132 (bl 131 (a_const 1 132)) (bl 132 (a_ast zG0 zT0 ts12 133))))))))
set_option maxRecDepth 100000 in
set_option maxHeartbeats 4000000 in
theorem zTo_225 {pre : zPre} {post : zPost} (H : zTieC pre post) {d : Nat × Nat × Nat} (hd : zLe (1, 0, 0) d) : aTr zG0 zT0 zInv (false, false) PZ zbd pre post d prog_14_method_68_code "CapitalCaseModel" zTr_225 := (xB_n (xB_n (xB_n (xB_n (xB_n (xB_n (xB_l ⟨_, zs_aload_n em198_0, as_aload⟩) (xB_l ⟨_, zs_getf (T := TX12) (M := 70) (ci := 12) (j := 60) em198_1 rfl inX12 (by decide) wd_1337 ((congrFun xo_12 119).trans rfl), as_getf zTie⟩)) (xB_n (xB_l ⟨_, zs_iload_n em198_4, as_iload⟩) (xB_n (xB_l ⟨_, zs_iconst (v := 0) em198_5 (by decide +kernel), as_const (by decide +kernel)⟩) (xB_l ⟨_, zs_bast zInj0 em198_6, as_bast zTie⟩)))) (xB_n (xB_n (xB_l ⟨_, zs_aload_n em198_7, as_aload⟩) (xB_l ⟨_, zs_getf (T := TX12) (M := 70) (ci := 12) (j := 0) em198_8 rfl inX12 (by decide) wd_1332 ((congrFun xo_12 116).trans rfl), as_getf zTie⟩)) (xB_n (xB_l ⟨_, zs_bipush (v := 40) em198_11 (by decide +kernel), as_const (by decide +kernel)⟩) (xB_n (xB_l ⟨_, zs_iload_n em198_13, as_iload⟩) (xB_l ⟨_, zs_iadd em198_14, as_bin fadd_ok⟩))))) (xB_n (xB_n (xB_n (xB_l ⟨_, zs_iald em198_15, ag_iald⟩) (xB_l ⟨_, zs_ifne em198_16 (t := 20) (by decide), as_if⟩)) (xB_n (xB_l ⟨_, zs_aload_n em198_20, as_aload⟩) (xB_n (xB_l ⟨_, zs_getf (T := TX12) (M := 70) (ci := 12) (j := 0) em198_21 rfl inX12 (by decide) wd_1332 ((congrFun xo_12 116).trans rfl), as_getf zTie⟩) (xB_l ⟨_, zs_bipush (v := 80) em198_24 (by decide +kernel), as_const (by decide +kernel)⟩)))) (xB_n (xB_n (xB_l ⟨_, zs_iload_n em198_26, as_iload⟩) (xB_n (xB_l ⟨_, zs_iadd em198_27, as_bin fadd_ok⟩) (xB_l ⟨_, zs_aload_n em198_28, as_aload⟩))) (xB_n (xB_l ⟨_, zs_getf (T := TX12) (M := 70) (ci := 12) (j := 0) em198_29 rfl inX12 (by decide) wd_1332 ((congrFun xo_12 116).trans rfl), as_getf zTie⟩) (xB_n (xB_l ⟨_, zs_bipush (v := 80) em198_32 (by decide +kernel), as_const (by decide +kernel)⟩) (xB_l ⟨_, zs_iload_n em198_34, as_iload⟩)))))) (xB_n (xB_n (xB_n (xB_n (xB_l ⟨_, zs_iadd em198_35, as_bin fadd_ok⟩) (xB_l ⟨_, zs_iald em198_36, ag_iald⟩)) (xB_n (xB_l ⟨_, zs_aload_n em198_37, as_aload⟩) (xB_n (xB_l ⟨_, zs_getf (T := TX12) (M := 70) (ci := 12) (j := 0) em198_38 rfl inX12 (by decide) wd_1332 ((congrFun xo_12 116).trans rfl), as_getf zTie⟩) (xB_l ⟨_, zs_bipush (v := 40) em198_41 (by decide +kernel), as_const (by decide +kernel)⟩)))) (xB_n (xB_n (xB_l ⟨_, zs_iload_n em198_43, as_iload⟩) (xB_l ⟨_, zs_iadd em198_44, as_bin fadd_ok⟩)) (xB_n (xB_l ⟨_, zs_iald em198_45, ag_iald⟩) (xB_n (xB_l ⟨_, zs_aload_n em198_46, as_aload⟩) (xB_l ⟨_, zs_getf (T := TX12) (M := 70) (ci := 12) (j := 15) em198_47 rfl inX12 (by decide) wd_1338 ((congrFun xo_12 122).trans rfl), as_getf zTie⟩))))) (xB_n (xB_n (xB_n (xB_l ⟨_, zs_iload_n em198_50, as_iload⟩) (xB_l ⟨_, zs_iald em198_51, ag_iald⟩)) (xB_n (xB_l ⟨_, zs_imul em198_52, as_bin fmul_ok⟩) (xB_n (xB_l ⟨_, zs_iadd em198_53, as_bin fadd_ok⟩) (xB_l ⟨_, zs_iconst (v := 0) em198_54 (by decide +kernel), as_const (by decide +kernel)⟩)))) (xB_n (xB_n (xB_l ⟨_, zs_sipush (v := 999) em198_55 (by decide +kernel), as_const (by decide +kernel)⟩) (xB_n (xB_l ⟨_, zs_invS em198_58 zl_152 wd_1671 wd_1672 ((congrFun xo_12 362).trans rfl) xm_145, ag_inv H zh_152 hd (by decide)⟩) (xB_l ⟨_, zs_iast zInj0 em198_61, as_iast zTie⟩))) (xB_n (xB_l ⟨_, zs_aload_n em198_62, as_aload⟩) (xB_n (xB_l ⟨_, zs_getf (T := TX12) (M := 70) (ci := 12) (j := 0) em198_63 rfl inX12 (by decide) wd_1332 ((congrFun xo_12 116).trans rfl), as_getf zTie⟩) (xB_l ⟨_, zs_bipush (v := 80) em198_66 (by decide +kernel), as_const (by decide +kernel)⟩))))))) (xB_n (xB_n (xB_n (xB_n (xB_n (xB_l ⟨_, zs_iload_n em198_68, as_iload⟩) (xB_l ⟨_, zs_iadd em198_69, as_bin fadd_ok⟩)) (xB_n (xB_l ⟨_, zs_iald em198_70, ag_iald⟩) (xB_n (xB_l ⟨_, zs_aload_n em198_71, as_aload⟩) (xB_l ⟨_, zs_getf (T := TX12) (M := 70) (ci := 12) (j := 40) em198_72 rfl inX12 (by decide) wd_1310 ((congrFun xo_12 64).trans rfl), as_getf zTie⟩)))) (xB_n (xB_n (xB_l ⟨_, zs_aload_n em198_75, as_aload⟩) (xB_l ⟨_, zs_getf (T := TX12) (M := 70) (ci := 12) (j := 2) em198_76 rfl inX12 (by decide) wd_1299 ((congrFun xo_12 230).trans rfl), as_getf zTie⟩)) (xB_n (xB_l ⟨_, zs_iald em198_79, ag_iald⟩) (xB_n (xB_l ⟨_, zs_icmpge em198_80 (t := 84) (by decide), as_icmp⟩) (xB_l ⟨_, zs_aload_n em198_84, as_aload⟩))))) (xB_n (xB_n (xB_n (xB_l ⟨_, zs_getf (T := TX12) (M := 70) (ci := 12) (j := 0) em198_85 rfl inX12 (by decide) wd_1332 ((congrFun xo_12 116).trans rfl), as_getf zTie⟩) (xB_l ⟨_, zs_bipush (v := 80) em198_88 (by decide +kernel), as_const (by decide +kernel)⟩)) (xB_n (xB_l ⟨_, zs_iload_n em198_90, as_iload⟩) (xB_n (xB_l ⟨_, zs_iadd em198_91, as_bin fadd_ok⟩) (xB_l ⟨_, zs_iconst (v := 0) em198_92 (by decide +kernel), as_const (by decide +kernel)⟩)))) (xB_n (xB_n (xB_l ⟨_, zs_iast zInj0 em198_93, as_iast zTie⟩) (xB_n (xB_l ⟨_, zs_aload_n em198_94, as_aload⟩) (xB_l ⟨_, zs_getf (T := TX12) (M := 70) (ci := 12) (j := 0) em198_95 rfl inX12 (by decide) wd_1332 ((congrFun xo_12 116).trans rfl), as_getf zTie⟩))) (xB_n (xB_l ⟨_, zs_iload_n em198_98, as_iload⟩) (xB_n (xB_l ⟨_, zs_iald em198_99, ag_iald⟩) (xB_l ⟨_, zs_ifne em198_100 (t := 104) (by decide), as_if⟩)))))) (xB_n (xB_n (xB_n (xB_n (xB_l ⟨_, zs_aload_n em198_104, as_aload⟩) (xB_l ⟨_, zs_getf (T := TX12) (M := 70) (ci := 12) (j := 0) em198_105 rfl inX12 (by decide) wd_1332 ((congrFun xo_12 116).trans rfl), as_getf zTie⟩)) (xB_n (xB_l ⟨_, zs_iload_n em198_108, as_iload⟩) (xB_n (xB_l ⟨_, zs_dup2 em198_109, as_dup2⟩) (xB_l ⟨_, zs_iald em198_110, ag_iald⟩)))) (xB_n (xB_n (xB_l ⟨_, zs_iconst (v := 1) em198_111 (by decide +kernel), as_const (by decide +kernel)⟩) (xB_l ⟨_, zs_isub em198_112, as_bin fsub_ok⟩)) (xB_n (xB_l ⟨_, zs_iast zInj0 em198_113, as_iast zTie⟩) (xB_n (xB_l ⟨_, zs_aload_n em198_114, as_aload⟩) (xB_l ⟨_, zs_getf (T := TX12) (M := 70) (ci := 12) (j := 0) em198_115 rfl inX12 (by decide) wd_1332 ((congrFun xo_12 116).trans rfl), as_getf zTie⟩))))) (xB_n (xB_n (xB_n (xB_l ⟨_, zs_sipush (v := 388) em198_118 (by decide +kernel), as_const (by decide +kernel)⟩) (xB_l ⟨_, zs_dup2 em198_121, as_dup2⟩)) (xB_n (xB_l ⟨_, zs_iald em198_122, ag_iald⟩) (xB_n (xB_l ⟨_, zs_iconst (v := 1) em198_123 (by decide +kernel), as_const (by decide +kernel)⟩) (xB_l ⟨_, zs_iadd em198_124, as_bin fadd_ok⟩)))) (xB_n (xB_n (xB_l ⟨_, zs_iast zInj0 em198_125, as_iast zTie⟩) (xB_n (xB_l ⟨_, zs_aload_n em198_126, as_aload⟩) (xB_l ⟨_, zs_getf (T := TX12) (M := 70) (ci := 12) (j := 60) em198_127 rfl inX12 (by decide) wd_1337 ((congrFun xo_12 119).trans rfl), as_getf zTie⟩))) (xB_n (xB_l ⟨_, zs_iload_n em198_130, as_iload⟩) (xB_n (xB_l ⟨_, zs_iconst (v := 1) em198_131 (by decide +kernel), as_const (by decide +kernel)⟩) (xB_l ⟨_, zs_bast zInj0 em198_132, as_bast zTie⟩))))))))
set_option maxRecDepth 100000 in
set_option maxHeartbeats 4000000 in
theorem zM_225 : zOKa 225 zc_225 := z_auto (cuts := []) (rets := [(19, 3), (83, 3), (103, 3), (133, 3)]) (fuel := 1000) rfl rfl (by decide) (xrt_ok (xR_c (Or.inr (Or.inr (Or.inl ⟨rfl, em198_19, rfl⟩))) (xR_c (Or.inr (Or.inr (Or.inl ⟨rfl, em198_83, rfl⟩))) (xR_c (Or.inr (Or.inr (Or.inl ⟨rfl, em198_103, rfl⟩))) (xR_c (Or.inr (Or.inr (Or.inl ⟨rfl, em198_133, rfl⟩))) (xR_n)))))) (fun _ _ H _ hd => zTo_225 H hd) (by decide +kernel)
