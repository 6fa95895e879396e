theorem em124_0 : decode prog_14_method_27_code 0 = .ok (.aload_n 0, 1) := by decide +kernel
theorem em124_1 : decode prog_14_method_27_code 1 = .ok (.getfield 200, 3) := by decide +kernel
theorem em124_4 : decode prog_14_method_27_code 4 = .ok (.ifCond .gt 11, 3) := by decide +kernel
theorem em124_7 : decode prog_14_method_27_code 7 = .ok (.aload_n 0, 1) := by decide +kernel
theorem em124_8 : decode prog_14_method_27_code 8 = .ok (.iconst 2, 1) := by decide +kernel
theorem em124_9 : decode prog_14_method_27_code 9 = .ok (.invokevirtual 218, 3) := by decide +kernel
theorem em124_12 : decode prog_14_method_27_code 12 = .ok (.ifCond .ne 10, 3) := by decide +kernel
theorem em124_15 : decode prog_14_method_27_code 15 = .ok (.aload_n 0, 1) := by decide +kernel
theorem em124_16 : decode prog_14_method_27_code 16 = .ok (.iconst 1, 1) := by decide +kernel
theorem em124_17 : decode prog_14_method_27_code 17 = .ok (.invokevirtual 215, 3) := by decide +kernel
theorem em124_20 : decode prog_14_method_27_code 20 = .ok (.iload_n 1, 1) := by decide +kernel
theorem em124_21 : decode prog_14_method_27_code 21 = .ok (.ireturn, 1) := by decide +kernel
theorem em124_22 : decode prog_14_method_27_code 22 = .ok (.aload_n 0, 1) := by decide +kernel
theorem em124_23 : decode prog_14_method_27_code 23 = .ok (.getfield 27, 3) := by decide +kernel
theorem em124_26 : decode prog_14_method_27_code 26 = .ok (.aload_n 0, 1) := by decide +kernel
theorem em124_27 : decode prog_14_method_27_code 27 = .ok (.getfield 203, 3) := by decide +kernel
theorem em124_30 : decode prog_14_method_27_code 30 = .ok (.iaload, 1) := by decide +kernel
theorem em124_31 : decode prog_14_method_27_code 31 = .ok (.istore_n 3, 1) := by decide +kernel
theorem em124_32 : decode prog_14_method_27_code 32 = .ok (.iload_n 3, 1) := by decide +kernel
theorem em124_33 : decode prog_14_method_27_code 33 = .ok (.iload_n 1, 1) := by decide +kernel
theorem em124_34 : decode prog_14_method_27_code 34 = .ok (.if_icmp .lt 8, 3) := by decide +kernel
theorem em124_37 : decode prog_14_method_27_code 37 = .ok (.iload_n 3, 1) := by decide +kernel
theorem em124_38 : decode prog_14_method_27_code 38 = .ok (.iload_n 2, 1) := by decide +kernel
theorem em124_39 : decode prog_14_method_27_code 39 = .ok (.if_icmp .le 12, 3) := by decide +kernel
theorem em124_42 : decode prog_14_method_27_code 42 = .ok (.aload_n 0, 1) := by decide +kernel
theorem em124_43 : decode prog_14_method_27_code 43 = .ok (.iconst 5, 1) := by decide +kernel
theorem em124_44 : decode prog_14_method_27_code 44 = .ok (.aload_n 0, 1) := by decide +kernel
theorem em124_45 : decode prog_14_method_27_code 45 = .ok (.getfield 203, 3) := by decide +kernel
theorem em124_48 : decode prog_14_method_27_code 48 = .ok (.invokevirtual 277, 3) := by decide +kernel
theorem em124_51 : decode prog_14_method_27_code 51 = .ok (.aload_n 0, 1) := by decide +kernel
theorem em124_52 : decode prog_14_method_27_code 52 = .ok (.invokevirtual 221, 3) := by decide +kernel
theorem em124_55 : decode prog_14_method_27_code 55 = .ok (.iload_n 3, 1) := by decide +kernel
theorem em124_56 : decode prog_14_method_27_code 56 = .ok (.ireturn, 1) := by decide +kernel
/-! CapitalCaseModel.bounded:(II)I -/
noncomputable def zTr_131 : Nat → Option aF := bn 30 (bn 15 (bn 7 (bn 1 (bl 0 (a_aload 0 1)) (bn 4 (bl 1 (a_getf zG0 zT0 12 27 4)) (bl 4 (a_if 4 15 7)))) (bn 9 (bn 8 (bl 7 (a_aload 0 8)) (bl 8 (a_const 2 9))) (bn 12 (bl 9 (a_invV zG0 zprot (true, false) zc_175 (zbd 175) (2, 0, 0) 12 2 12)) (bl 12 (a_if 1 22 15))))) (bn 22 (bn 17 (bn 16 (bl 15 (a_aload 0 16)) (bl 16 (a_const 1 17))) (bn 20 (bl 17 (a_invV zG0 zprot (true, false) zc_140 (zbd 140) (2, 0, 0) 12 2 20)) (bl 20 (a_iload 1 21)))) (bn 26 (bn 23 (bl 22 (a_aload 0 23)) (bl 23 (a_getf zG0 zT0 12 21 26))) (bn 27 (bl 26 (a_aload 0 27)) (bl 27 (a_getf zG0 zT0 12 25 30)))))) (bn 42 (bn 34 (bn 32 (bn 31 (bl 30 (a_ald zG0 zT0 (true, false) ts0 31)) (bl 31 (a_istore 3 32))) (bn 33 (bl 32 (a_iload 3 33)) (bl 33 (a_iload 1 34)))) (bn 38 (bn 37 (bl 34 (a_icmp 2 42 37)) (bl 37 (a_iload 3 38))) (bn 39 (bl 38 (a_iload 2 39)) (bl 39 (a_icmp 5 51 42))))) (bn 48 (bn 44 (bn 43 (bl 42 (a_aload 0 43)) (bl 43 (a_const 5 44))) (bn 45 (bl 44 (a_aload 0 45)) (bl 45 (a_getf zG0 zT0 12 25 48)))) (bn 52 (bn 51 (bl 48 (a_invV zG0 zprot (true, false) zc_231 (zbd 231) (2, 0, 0) 12 3 51)) (bl 51 (a_aload 0 52))) (bn 55 (bl 52 (a_invV zG0 zprot (true, false) zc_151 (zbd 151) (2, 0, 0) 12 1 55)) (bl 55 (a_iload 3 56))))))
set_option maxRecDepth 100000 in
set_option maxHeartbeats 4000000 in
theorem zTo_131 {pre : zPre} {post : zPost} (H : zTieC pre post) {d : Nat × Nat × Nat} (hd : zLe (2, 0, 0) d) : aTr zG0 zT0 zInv (true, false) PZ zbd pre post d prog_14_method_27_code "CapitalCaseModel" zTr_131 := (xB_n (xB_n (xB_n (xB_n (xB_l ⟨_, zs_aload_n em124_0, as_aload⟩) (xB_n (xB_l ⟨_, zs_getf (T := TX12) (M := 70) (ci := 12) (j := 27) em124_1 rfl inX12 (by decide) wd_1294 ((congrFun xo_12 200).trans rfl), as_getf zTie⟩) (xB_l ⟨_, zs_ifgt em124_4 (t := 15) (by decide), as_if⟩))) (xB_n (xB_n (xB_l ⟨_, zs_aload_n em124_7, as_aload⟩) (xB_l ⟨_, zs_iconst (v := 2) em124_8 (by decide +kernel), as_const (by decide +kernel)⟩)) (xB_n (xB_l ⟨_, zs_invV (T := TX12) em124_9 zl_175 rfl wd_1531 wd_1533 wd_52 ((congrFun xo_12 218).trans rfl) xm_149, ag_invV H zh_175 hd (by decide)⟩) (xB_l ⟨_, zs_ifne em124_12 (t := 22) (by decide), as_if⟩)))) (xB_n (xB_n (xB_n (xB_l ⟨_, zs_aload_n em124_15, as_aload⟩) (xB_l ⟨_, zs_iconst (v := 1) em124_16 (by decide +kernel), as_const (by decide +kernel)⟩)) (xB_n (xB_l ⟨_, zs_invV (T := TX12) em124_17 zl_140 rfl wd_1543 wd_1545 wd_55 ((congrFun xo_12 215).trans rfl) xm_133, ag_invV H zh_140 hd (by decide)⟩) (xB_l ⟨_, zs_iload_n em124_20, as_iload⟩))) (xB_n (xB_n (xB_l ⟨_, zs_aload_n em124_22, as_aload⟩) (xB_l ⟨_, zs_getf (T := TX12) (M := 70) (ci := 12) (j := 21) em124_23 rfl inX12 (by decide) wd_1288 ((congrFun xo_12 27).trans rfl), as_getf zTie⟩)) (xB_n (xB_l ⟨_, zs_aload_n em124_26, as_aload⟩) (xB_l ⟨_, zs_getf (T := TX12) (M := 70) (ci := 12) (j := 25) em124_27 rfl inX12 (by decide) wd_1292 ((congrFun xo_12 203).trans rfl), as_getf zTie⟩))))) (xB_n (xB_n (xB_n (xB_n (xB_l ⟨_, zs_iald em124_30, ag_iald⟩) (xB_l ⟨_, zs_istore_n em124_31, as_istore⟩)) (xB_n (xB_l ⟨_, zs_iload_n em124_32, as_iload⟩) (xB_l ⟨_, zs_iload_n em124_33, as_iload⟩))) (xB_n (xB_n (xB_l ⟨_, zs_icmplt em124_34 (t := 42) (by decide), as_icmp⟩) (xB_l ⟨_, zs_iload_n em124_37, as_iload⟩)) (xB_n (xB_l ⟨_, zs_iload_n em124_38, as_iload⟩) (xB_l ⟨_, zs_icmple em124_39 (t := 51) (by decide), as_icmp⟩)))) (xB_n (xB_n (xB_n (xB_l ⟨_, zs_aload_n em124_42, as_aload⟩) (xB_l ⟨_, zs_iconst (v := 5) em124_43 (by decide +kernel), as_const (by decide +kernel)⟩)) (xB_n (xB_l ⟨_, zs_aload_n em124_44, as_aload⟩) (xB_l ⟨_, zs_getf (T := TX12) (M := 70) (ci := 12) (j := 25) em124_45 rfl inX12 (by decide) wd_1292 ((congrFun xo_12 203).trans rfl), as_getf zTie⟩))) (xB_n (xB_n (xB_l ⟨_, zs_invV (T := TX12) em124_48 zl_231 rfl wd_1563 wd_1565 wd_60 ((congrFun xo_12 277).trans rfl) xm_204, ag_invV H zh_231 hd (by decide)⟩) (xB_l ⟨_, zs_aload_n em124_51, as_aload⟩)) (xB_n (xB_l ⟨_, zs_invV (T := TX12) em124_52 zl_151 rfl wd_1547 wd_1549 wd_56 ((congrFun xo_12 221).trans rfl) xm_144, ag_invV H zh_151 hd (by decide)⟩) (xB_l ⟨_, zs_iload_n em124_55, as_iload⟩))))))
set_option maxRecDepth 100000 in
set_option maxHeartbeats 4000000 in
theorem zM_131 : zOKa 131 zc_131 := z_auto (cuts := []) (rets := [(21, 1), (56, 1)]) (fuel := 1000) rfl rfl (by decide) (xrt_ok (xR_c (Or.inl ⟨rfl, em124_21, rfl⟩) (xR_c (Or.inl ⟨rfl, em124_56, rfl⟩) (xR_n)))) (fun _ _ H _ hd => zTo_131 H hd) (by decide +kernel)
theorem em125_0 : decode prog_14_method_86_code 0 = .ok (.iconst 0, 1) := by decide +kernel
theorem em125_1 : decode prog_14_method_86_code 1 = .ok (.istore_n 2, 1) := by decide +kernel
theorem em125_2 : decode prog_14_method_86_code 2 = .ok (.iload_n 2, 1) := by decide +kernel
theorem em125_3 : decode prog_14_method_86_code 3 = .ok (.sipush 390, 3) := by decide +kernel
theorem em125_6 : decode prog_14_method_86_code 6 = .ok (.if_icmp .ge 21, 3) := by decide +kernel
theorem em125_9 : decode prog_14_method_86_code 9 = .ok (.aload_n 0, 1) := by decide +kernel
theorem em125_10 : decode prog_14_method_86_code 10 = .ok (.getfield 116, 3) := by decide +kernel
theorem em125_13 : decode prog_14_method_86_code 13 = .ok (.iload_n 2, 1) := by decide +kernel
theorem em125_14 : decode prog_14_method_86_code 14 = .ok (.aload_n 0, 1) := by decide +kernel
theorem em125_15 : decode prog_14_method_86_code 15 = .ok (.getfield 131, 3) := by decide +kernel
theorem em125_18 : decode prog_14_method_86_code 18 = .ok (.iload_n 2, 1) := by decide +kernel
theorem em125_19 : decode prog_14_method_86_code 19 = .ok (.iaload, 1) := by decide +kernel
theorem em125_20 : decode prog_14_method_86_code 20 = .ok (.iastore, 1) := by decide +kernel
theorem em125_21 : decode prog_14_method_86_code 21 = .ok (.iinc 2 1, 3) := by decide +kernel
theorem em125_24 : decode prog_14_method_86_code 24 = .ok (.goto (-22), 3) := by decide +kernel
theorem em125_27 : decode prog_14_method_86_code 27 = .ok (.iconst 0, 1) := by decide +kernel
theorem em125_28 : decode prog_14_method_86_code 28 = .ok (.istore_n 2, 1) := by decide +kernel
theorem em125_29 : decode prog_14_method_86_code 29 = .ok (.iload_n 2, 1) := by decide +kernel
theorem em125_30 : decode prog_14_method_86_code 30 = .ok (.aload_n 0, 1) := by decide +kernel
theorem em125_31 : decode prog_14_method_86_code 31 = .ok (.getfield 49, 3) := by decide +kernel
theorem em125_34 : decode prog_14_method_86_code 34 = .ok (.aload_n 0, 1) := by decide +kernel
theorem em125_35 : decode prog_14_method_86_code 35 = .ok (.getfield 230, 3) := by decide +kernel
theorem em125_38 : decode prog_14_method_86_code 38 = .ok (.iaload, 1) := by decide +kernel
theorem em125_39 : decode prog_14_method_86_code 39 = .ok (.if_icmp .ge 28, 3) := by decide +kernel
theorem em125_42 : decode prog_14_method_86_code 42 = .ok (.iload_n 1, 1) := by decide +kernel
theorem em125_43 : decode prog_14_method_86_code 43 = .ok (.iload_n 2, 1) := by decide +kernel
theorem em125_44 : decode prog_14_method_86_code 44 = .ok (.ishr, 1) := by decide +kernel
theorem em125_45 : decode prog_14_method_86_code 45 = .ok (.iconst 1, 1) := by decide +kernel
theorem em125_46 : decode prog_14_method_86_code 46 = .ok (.iand, 1) := by decide +kernel
theorem em125_47 : decode prog_14_method_86_code 47 = .ok (.iconst 1, 1) := by decide +kernel
theorem em125_48 : decode prog_14_method_86_code 48 = .ok (.if_icmp .ne 13, 3) := by decide +kernel
theorem em125_51 : decode prog_14_method_86_code 51 = .ok (.aload_n 0, 1) := by decide +kernel
theorem em125_52 : decode prog_14_method_86_code 52 = .ok (.iload_n 2, 1) := by decide +kernel
theorem em125_53 : decode prog_14_method_86_code 53 = .ok (.invokevirtual 421, 3) := by decide +kernel
theorem em125_56 : decode prog_14_method_86_code 56 = .ok (.ifCond .ne 5, 3) := by decide +kernel
theorem em125_59 : decode prog_14_method_86_code 59 = .ok (.iconst 0, 1) := by decide +kernel
theorem em125_60 : decode prog_14_method_86_code 60 = .ok (.ireturn, 1) := by decide +kernel
theorem em125_61 : decode prog_14_method_86_code 61 = .ok (.iinc 2 1, 3) := by decide +kernel
theorem em125_64 : decode prog_14_method_86_code 64 = .ok (.goto (-35), 3) := by decide +kernel
theorem em125_67 : decode prog_14_method_86_code 67 = .ok (.iconst 1, 1) := by decide +kernel
theorem em125_68 : decode prog_14_method_86_code 68 = .ok (.ireturn, 1) := by decide +kernel
/-! CapitalCaseModel.canSet:(I)Z -/
noncomputable def zTr_132 : Nat → Option aF := bn 31 (bn 15 (bn 6 (bn 2 (bn 1 (bl 0 (a_const 0 1)) (bl 1 (a_istore 2 2))) (bn 3 (bl 2 (a_iload 2 3)) (bl 3 (a_const 390 6)))) (bn 10 (bn 9 (bl 6 (a_icmp 3 27 9)) (bl 9 (a_aload 0 10))) (bn 13 (bl 10 (a_getf zG0 zT0 12 0 13)) (bn 14 (bl 13 (a_iload 2 14)) (bl 14 (a_aload 0 15)))))) (bn 24 (bn 19 (bn 18 (bl 15 (a_getf zG0 zT0 12 61 18)) (bl 18 (a_iload 2 19))) (bn 20 (bl 19 (a_ald zG0 zT0 (true, false) ts0 20)) (bn 21 (bl 20 (a_ast zG0 zT0 ts0 21)) (bl 21 (a_iinc 2 1 24))))) (bn 28 (bn 27 (bl 24 (a_goto 2)) (bl 27 (a_const 0 28))) (bn 29 (bl 28 (a_istore 2 29)) (bn 30 (bl 29 (a_iload 2 30)) (bl 30 (a_aload 0 31))))))) (bn 47 (bn 42 (bn 35 (bn 34 (bl 31 (a_getf zG0 zT0 12 4 34)) (bl 34 (a_aload 0 35))) (bn 38 (bl 35 (a_getf zG0 zT0 12 2 38)) (bn 39 (bl 38 (a_ald zG0 zT0 (true, false) ts0 39)) (bl 39 (a_icmp 3 67 42))))) (bn 44 (bn 43 (bl 42 (a_iload 1 43)) (bl 43 (a_iload 2 44))) (bn 45 (bl 44 (a_bin fany 45)) (bn 46 (bl 45 (a_const 1 46)) (bl 46 (a_bin fand 47)))))) (bn 56 (bn 51 (bn 48 (bl 47 (a_const 1 48)) (bl 48 (a_icmp 1 61 51))) (bn 52 (bl 51 (a_aload 0 52)) (bn 53 (bl 52 (a_iload 2 53)) (bl 53 (a_invV zG0 zprot (true, false) zc_212 (zbd 212) (9, 0, 0) 12 2 56))))) (bn 61 (bn 59 (bl 56 (a_if 1 61 59)) (bl 59 (a_const 0 60))) (bn 64 (bl 61 (a_iinc 2 1 64)) (bn 67 (bl 64 (a_goto 29)) (bl 67 (a_const 1 68)))))))
set_option maxRecDepth 100000 in
set_option maxHeartbeats 4000000 in
theorem zTo_132 {pre : zPre} {post : zPost} (H : zTieC pre post) {d : Nat × Nat × Nat} (hd : zLe (9, 0, 0) d) : aTr zG0 zT0 zInv (true, false) PZ zbd pre post d prog_14_method_86_code "CapitalCaseModel" zTr_132 := (xB_n (xB_n (xB_n (xB_n (xB_n (xB_l ⟨_, zs_iconst (v := 0) em125_0 (by decide +kernel), as_const (by decide +kernel)⟩) (xB_l ⟨_, zs_istore_n em125_1, as_istore⟩)) (xB_n (xB_l ⟨_, zs_iload_n em125_2, as_iload⟩) (xB_l ⟨_, zs_sipush (v := 390) em125_3 (by decide +kernel), as_const (by decide +kernel)⟩))) (xB_n (xB_n (xB_l ⟨_, zs_icmpge em125_6 (t := 27) (by decide), as_icmp⟩) (xB_l ⟨_, zs_aload_n em125_9, as_aload⟩)) (xB_n (xB_l ⟨_, zs_getf (T := TX12) (M := 70) (ci := 12) (j := 0) em125_10 rfl inX12 (by decide) wd_1332 ((congrFun xo_12 116).trans rfl), as_getf zTie⟩) (xB_n (xB_l ⟨_, zs_iload_n em125_13, as_iload⟩) (xB_l ⟨_, zs_aload_n em125_14, as_aload⟩))))) (xB_n (xB_n (xB_n (xB_l ⟨_, zs_getf (T := TX12) (M := 70) (ci := 12) (j := 61) em125_15 rfl inX12 (by decide) wd_1342 ((congrFun xo_12 131).trans rfl), as_getf zTie⟩) (xB_l ⟨_, zs_iload_n em125_18, as_iload⟩)) (xB_n (xB_l ⟨_, zs_iald em125_19, ag_iald⟩) (xB_n (xB_l ⟨_, zs_iast zInj0 em125_20, as_iast zTie⟩) (xB_l ⟨_, zs_iinc (k := 1) em125_21 (by decide +kernel), as_iinc (by decide +kernel)⟩)))) (xB_n (xB_n (xB_l ⟨_, zs_goto em125_24 (t := 2) (by decide), as_goto⟩) (xB_l ⟨_, zs_iconst (v := 0) em125_27 (by decide +kernel), as_const (by decide +kernel)⟩)) (xB_n (xB_l ⟨_, zs_istore_n em125_28, as_istore⟩) (xB_n (xB_l ⟨_, zs_iload_n em125_29, as_iload⟩) (xB_l ⟨_, zs_aload_n em125_30, as_aload⟩)))))) (xB_n (xB_n (xB_n (xB_n (xB_l ⟨_, zs_getf (T := TX12) (M := 70) (ci := 12) (j := 4) em125_31 rfl inX12 (by decide) wd_1305 ((congrFun xo_12 49).trans rfl), as_getf zTie⟩) (xB_l ⟨_, zs_aload_n em125_34, as_aload⟩)) (xB_n (xB_l ⟨_, zs_getf (T := TX12) (M := 70) (ci := 12) (j := 2) em125_35 rfl inX12 (by decide) wd_1299 ((congrFun xo_12 230).trans rfl), as_getf zTie⟩) (xB_n (xB_l ⟨_, zs_iald em125_38, ag_iald⟩) (xB_l ⟨_, zs_icmpge em125_39 (t := 67) (by decide), as_icmp⟩)))) (xB_n (xB_n (xB_l ⟨_, zs_iload_n em125_42, as_iload⟩) (xB_l ⟨_, zs_iload_n em125_43, as_iload⟩)) (xB_n (xB_l ⟨_, zs_ishr em125_44, as_bin fany_ok⟩) (xB_n (xB_l ⟨_, zs_iconst (v := 1) em125_45 (by decide +kernel), as_const (by decide +kernel)⟩) (xB_l ⟨_, zs_iand em125_46, as_bin fand_ok⟩))))) (xB_n (xB_n (xB_n (xB_l ⟨_, zs_iconst (v := 1) em125_47 (by decide +kernel), as_const (by decide +kernel)⟩) (xB_l ⟨_, zs_icmpne em125_48 (t := 61) (by decide), as_icmp⟩)) (xB_n (xB_l ⟨_, zs_aload_n em125_51, as_aload⟩) (xB_n (xB_l ⟨_, zs_iload_n em125_52, as_iload⟩) (xB_l ⟨_, zs_invV (T := TX12) em125_53 zl_212 rfl wd_1715 wd_1717 wd_88 ((congrFun xo_12 421).trans rfl) xm_185, ag_invV H zh_212 hd (by decide)⟩)))) (xB_n (xB_n (xB_l ⟨_, zs_ifne em125_56 (t := 61) (by decide), as_if⟩) (xB_l ⟨_, zs_iconst (v := 0) em125_59 (by decide +kernel), as_const (by decide +kernel)⟩)) (xB_n (xB_l ⟨_, zs_iinc (k := 1) em125_61 (by decide +kernel), as_iinc (by decide +kernel)⟩) (xB_n (xB_l ⟨_, zs_goto em125_64 (t := 29) (by decide), as_goto⟩) (xB_l ⟨_, zs_iconst (v := 1) em125_67 (by decide +kernel), as_const (by decide +kernel)⟩)))))))
set_option maxRecDepth 100000 in
set_option maxHeartbeats 4000000 in
theorem zM_132 : zOKa 132 zc_132 := z_auto (cuts := [(2, ([(0, 0), (1, 127), (0, 1), (0, 390)], [], [some (.inr (.inl (0, 75))), some (.inl (1, 0)), some (.inl (3, 0))], [], [(22, 2, 0)], (0, 0)), [(0, 2)], 398, [0, 0, 0, (-1)]), (29, ([(0, 0), (1, 127), (0, 1), (0, 7)], [], [some (.inr (.inl (0, 75))), some (.inl (1, 0)), some (.inl (3, 0))], [], [(22, 2, 0)], (0, 0)), [(0, 2)], 7, [0, 0, 0, (-1)])]) (rets := [(60, 2), (68, 2)]) (fuel := 1000) rfl rfl (by decide) (xrt_ok (xR_c (Or.inr (Or.inl ⟨rfl, em125_60, rfl⟩)) (xR_c (Or.inr (Or.inl ⟨rfl, em125_68, rfl⟩)) (xR_n)))) (fun _ _ H _ hd => zTo_132 H hd) (by decide +kernel)
theorem em126_0 : decode prog_14_method_99_code 0 = .ok (.aload_n 0, 1) := by decide +kernel
theorem em126_1 : decode prog_14_method_99_code 1 = .ok (.iload_n 1, 1) := by decide +kernel
theorem em126_2 : decode prog_14_method_99_code 2 = .ok (.invokevirtual 417, 3) := by decide +kernel
theorem em126_5 : decode prog_14_method_99_code 5 = .ok (.ifCond .ne 5, 3) := by decide +kernel
theorem em126_8 : decode prog_14_method_99_code 8 = .ok (.iconst (-1), 1) := by decide +kernel
theorem em126_9 : decode prog_14_method_99_code 9 = .ok (.ireturn, 1) := by decide +kernel
theorem em126_10 : decode prog_14_method_99_code 10 = .ok (.aload_n 0, 1) := by decide +kernel
theorem em126_11 : decode prog_14_method_99_code 11 = .ok (.invokevirtual 411, 3) := by decide +kernel
theorem em126_14 : decode prog_14_method_99_code 14 = .ok (.aload_n 0, 1) := by decide +kernel
theorem em126_15 : decode prog_14_method_99_code 15 = .ok (.iload_n 1, 1) := by decide +kernel
theorem em126_16 : decode prog_14_method_99_code 16 = .ok (.invokevirtual 383, 3) := by decide +kernel
theorem em126_19 : decode prog_14_method_99_code 19 = .ok (.ifCond .ne 6, 3) := by decide +kernel
theorem em126_22 : decode prog_14_method_99_code 22 = .ok (.bipush (-2), 2) := by decide +kernel
theorem em126_24 : decode prog_14_method_99_code 24 = .ok (.ireturn, 1) := by decide +kernel
theorem em126_25 : decode prog_14_method_99_code 25 = .ok (.iconst 0, 1) := by decide +kernel
theorem em126_26 : decode prog_14_method_99_code 26 = .ok (.istore_n 2, 1) := by decide +kernel
theorem em126_27 : decode prog_14_method_99_code 27 = .ok (.iconst 0, 1) := by decide +kernel
theorem em126_28 : decode prog_14_method_99_code 28 = .ok (.istore_n 3, 1) := by decide +kernel
theorem em126_29 : decode prog_14_method_99_code 29 = .ok (.iload_n 3, 1) := by decide +kernel
theorem em126_30 : decode prog_14_method_99_code 30 = .ok (.aload_n 0, 1) := by decide +kernel
theorem em126_31 : decode prog_14_method_99_code 31 = .ok (.getfield 52, 3) := by decide +kernel
theorem em126_34 : decode prog_14_method_99_code 34 = .ok (.bipush 7, 2) := by decide +kernel
theorem em126_36 : decode prog_14_method_99_code 36 = .ok (.aload_n 0, 1) := by decide +kernel
theorem em126_37 : decode prog_14_method_99_code 37 = .ok (.getfield 230, 3) := by decide +kernel
theorem em126_40 : decode prog_14_method_99_code 40 = .ok (.imul, 1) := by decide +kernel
theorem em126_41 : decode prog_14_method_99_code 41 = .ok (.iload_n 1, 1) := by decide +kernel
theorem em126_42 : decode prog_14_method_99_code 42 = .ok (.iadd, 1) := by decide +kernel
theorem em126_43 : decode prog_14_method_99_code 43 = .ok (.iaload, 1) := by decide +kernel
theorem em126_44 : decode prog_14_method_99_code 44 = .ok (.if_icmp .ge 78, 3) := by decide +kernel
theorem em126_47 : decode prog_14_method_99_code 47 = .ok (.aload_n 0, 1) := by decide +kernel
theorem em126_48 : decode prog_14_method_99_code 48 = .ok (.getfield 55, 3) := by decide +kernel
theorem em126_51 : decode prog_14_method_99_code 51 = .ok (.bipush 8, 2) := by decide +kernel
theorem em126_53 : decode prog_14_method_99_code 53 = .ok (.bipush 7, 2) := by decide +kernel
theorem em126_55 : decode prog_14_method_99_code 55 = .ok (.aload_n 0, 1) := by decide +kernel
theorem em126_56 : decode prog_14_method_99_code 56 = .ok (.getfield 230, 3) := by decide +kernel
theorem em126_59 : decode prog_14_method_99_code 59 = .ok (.imul, 1) := by decide +kernel
theorem em126_60 : decode prog_14_method_99_code 60 = .ok (.iload_n 1, 1) := by decide +kernel
theorem em126_61 : decode prog_14_method_99_code 61 = .ok (.iadd, 1) := by decide +kernel
theorem em126_62 : decode prog_14_method_99_code 62 = .ok (.imul, 1) := by decide +kernel
theorem em126_63 : decode prog_14_method_99_code 63 = .ok (.iload_n 3, 1) := by decide +kernel
theorem em126_64 : decode prog_14_method_99_code 64 = .ok (.iadd, 1) := by decide +kernel
theorem em126_65 : decode prog_14_method_99_code 65 = .ok (.iaload, 1) := by decide +kernel
theorem em126_66 : decode prog_14_method_99_code 66 = .ok (.istore 4, 2) := by decide +kernel
theorem em126_68 : decode prog_14_method_99_code 68 = .ok (.aload_n 0, 1) := by decide +kernel
theorem em126_69 : decode prog_14_method_99_code 69 = .ok (.iload 4, 2) := by decide +kernel
theorem em126_71 : decode prog_14_method_99_code 71 = .ok (.iload_n 1, 1) := by decide +kernel
theorem em126_72 : decode prog_14_method_99_code 72 = .ok (.invokevirtual 377, 3) := by decide +kernel
theorem em126_75 : decode prog_14_method_99_code 75 = .ok (.istore 5, 2) := by decide +kernel
theorem em126_77 : decode prog_14_method_99_code 77 = .ok (.iload 5, 2) := by decide +kernel
theorem em126_79 : decode prog_14_method_99_code 79 = .ok (.ifCond .ge 6, 3) := by decide +kernel
theorem em126_82 : decode prog_14_method_99_code 82 = .ok (.bipush (-2), 2) := by decide +kernel
theorem em126_84 : decode prog_14_method_99_code 84 = .ok (.ireturn, 1) := by decide +kernel
theorem em126_85 : decode prog_14_method_99_code 85 = .ok (.aload_n 0, 1) := by decide +kernel
theorem em126_86 : decode prog_14_method_99_code 86 = .ok (.getfield 365, 3) := by decide +kernel
theorem em126_89 : decode prog_14_method_99_code 89 = .ok (.iconst 1, 1) := by decide +kernel
theorem em126_90 : decode prog_14_method_99_code 90 = .ok (.if_icmp .le 6, 3) := by decide +kernel
theorem em126_93 : decode prog_14_method_99_code 93 = .ok (.iinc 2 1, 3) := by decide +kernel
theorem em126_96 : decode prog_14_method_99_code 96 = .ok (.aload_n 0, 1) := by decide +kernel
theorem em126_97 : decode prog_14_method_99_code 97 = .ok (.getfield 116, 3) := by decide +kernel
theorem em126_100 : decode prog_14_method_99_code 100 = .ok (.bipush 40, 2) := by decide +kernel
theorem em126_102 : decode prog_14_method_99_code 102 = .ok (.bipush 8, 2) := by decide +kernel
theorem em126_104 : decode prog_14_method_99_code 104 = .ok (.iload 5, 2) := by decide +kernel
theorem em126_106 : decode prog_14_method_99_code 106 = .ok (.imul, 1) := by decide +kernel
theorem em126_107 : decode prog_14_method_99_code 107 = .ok (.iadd, 1) := by decide +kernel
theorem em126_108 : decode prog_14_method_99_code 108 = .ok (.iload 4, 2) := by decide +kernel
theorem em126_110 : decode prog_14_method_99_code 110 = .ok (.iadd, 1) := by decide +kernel
theorem em126_111 : decode prog_14_method_99_code 111 = .ok (.dup2, 1) := by decide +kernel
theorem em126_112 : decode prog_14_method_99_code 112 = .ok (.iaload, 1) := by decide +kernel
theorem em126_113 : decode prog_14_method_99_code 113 = .ok (.iconst 1, 1) := by decide +kernel
theorem em126_114 : decode prog_14_method_99_code 114 = .ok (.iadd, 1) := by decide +kernel
theorem em126_115 : decode prog_14_method_99_code 115 = .ok (.iastore, 1) := by decide +kernel
theorem em126_116 : decode prog_14_method_99_code 116 = .ok (.iinc 3 1, 3) := by decide +kernel
theorem em126_119 : decode prog_14_method_99_code 119 = .ok (.goto (-90), 3) := by decide +kernel
theorem em126_122 : decode prog_14_method_99_code 122 = .ok (.iload_n 2, 1) := by decide +kernel
theorem em126_123 : decode prog_14_method_99_code 123 = .ok (.ireturn, 1) := by decide +kernel
/-! CapitalCaseModel.clash:(I)I -/
noncomputable def zTr_133 : Nat → Option aF := bn 61 (bn 30 (bn 15 (bn 8 (bn 2 (bn 1 (bl 0 (a_aload 0 1)) (bl 1 (a_iload 1 2))) (bn 5 (bl 2 (a_invV zG0 zprot (true, false) zc_181 (zbd 181) (8, 0, 0) 12 2 5)) (bl 5 (a_if 1 10 8)))) (bn 11 (bn 10 (bl 8 (a_const (-1) 9)) (bl 10 (a_aload 0 11))) (bn 14 (bl 11 (a_invV zG0 zprot (true, false) zc_136 (zbd 136) (8, 0, 0) 12 1 14)) (bl 14 (a_aload 0 15))))) (bn 25 (bn 19 (bn 16 (bl 15 (a_iload 1 16)) (bl 16 (a_invV zG0 zprot (true, false) zc_179 (zbd 179) (8, 0, 0) 12 2 19))) (bn 22 (bl 19 (a_if 1 25 22)) (bl 22 (a_const (-2) 24)))) (bn 27 (bn 26 (bl 25 (a_const 0 26)) (bl 26 (a_istore 2 27))) (bn 28 (bl 27 (a_const 0 28)) (bn 29 (bl 28 (a_istore 3 29)) (bl 29 (a_iload 3 30))))))) (bn 44 (bn 37 (bn 34 (bn 31 (bl 30 (a_aload 0 31)) (bl 31 (a_getf zG0 zT0 12 36 34))) (bn 36 (bl 34 (a_const 7 36)) (bl 36 (a_aload 0 37)))) (bn 41 (bn 40 (bl 37 (a_getf zG0 zT0 12 2 40)) (bl 40 (a_bin fmul 41))) (bn 42 (bl 41 (a_iload 1 42)) (bn 43 (bl 42 (a_bin fadd 43)) (bl 43 (a_ald zG0 zT0 (true, false) ts0 44)))))) (bn 53 (bn 48 (bn 47 (bl 44 (a_icmp 3 122 47)) (bl 47 (a_aload 0 48))) (bn 51 (bl 48 (a_getf zG0 zT0 12 37 51)) (bl 51 (a_const 8 53)))) (bn 56 (bn 55 (bl 53 (a_const 7 55)) (bl 55 (a_aload 0 56))) (bn 59 (bl 56 (a_getf zG0 zT0 12 2 59)) (bn 60 (bl 59 (a_bin fmul 60)) (bl 60 (a_iload 1 61)))))))) (bn 93 (bn 72 (bn 65 (bn 63 (bn 62 (bl 61 (a_bin fadd 62)) (bl 62 (a_bin fmul 63))) (bn 64 (bl 63 (a_iload 3 64)) (bl 64 (a_bin fadd 65)))) (bn 68 (bn 66 (bl 65 (a_ald zG0 zT0 (true, false) ts0 66)) (bl 66 (a_istore 4 68))) (bn 69 (bl 68 (a_aload 0 69)) (bn 71 (bl 69 (a_iload 4 71)) (bl 71 (a_iload 1 72)))))) (bn 82 (bn 77 (bn 75 (bl 72 (a_invV zG0 zprot (true, false) zc_148 (zbd 148) (8, 0, 0) 12 3 75)) (bl 75 (a_istore 5 77))) (bn 79 (bl 77 (a_iload 5 79)) (bl 79 (a_if 3 85 82)))) (bn 86 (bn 85 (bl 82 (a_const (-2) 84)) (bl 85 (a_aload 0 86))) (bn 89 (bl 86 (a_getf zG0 zT0 12 59 89)) (bn 90 (bl 89 (a_const 1 90)) (bl 90 (a_icmp 5 96 93))))))) (bn 110 (bn 102 (bn 97 (bn 96 (bl 93 (a_iinc 2 1 96)) (bl 96 (a_aload 0 97))) (bn 100 (bl 97 (a_getf zG0 zT0 12 0 100)) (bl 100 (a_const 40 102)))) (bn 106 (bn 104 (bl 102 (a_const 8 104)) (bl 104 (a_iload 5 106))) (bn 107 (bl 106 (a_bin fmul 107)) (bn 108 (bl 107 (a_bin fadd 108)) (bl 108 (a_iload 4 110)))))) (bn 114 (bn 112 (bn 111 (bl 110 (a_bin fadd 111)) (bl 111 (a_dup2 112))) (bn 113 (bl 112 (a_ald zG0 zT0 (true, false) ts0 113)) (bl 113 (a_const 1 114)))) (bn 116 (bn 115 (bl 114 (a_bin fadd 115)) (bl 115 (a_ast zG0 zT0 ts0 116))) (bn 119 (bl 116 (a_iinc 3 1 119)) (bn 122 (bl 119 (a_goto 29)) (bl 122 (a_iload 2 123))))))))
set_option maxRecDepth 100000 in
set_option maxHeartbeats 4000000 in
theorem zTo_133 {pre : zPre} {post : zPost} (H : zTieC pre post) {d : Nat × Nat × Nat} (hd : zLe (8, 0, 0) d) : aTr zG0 zT0 zInv (true, false) PZ zbd pre post d prog_14_method_99_code "CapitalCaseModel" zTr_133 := (xB_n (xB_n (xB_n (xB_n (xB_n (xB_n (xB_l ⟨_, zs_aload_n em126_0, as_aload⟩) (xB_l ⟨_, zs_iload_n em126_1, as_iload⟩)) (xB_n (xB_l ⟨_, zs_invV (T := TX12) em126_2 zl_181 rfl wd_1678 wd_1680 wd_82 ((congrFun xo_12 417).trans rfl) xm_155, ag_invV H zh_181 hd (by decide)⟩) (xB_l ⟨_, zs_ifne em126_5 (t := 10) (by decide), as_if⟩))) (xB_n (xB_n (xB_l ⟨_, zs_iconst (v := (-1)) em126_8 (by decide +kernel), as_const (by decide +kernel)⟩) (xB_l ⟨_, zs_aload_n em126_10, as_aload⟩)) (xB_n (xB_l ⟨_, zs_invV (T := TX12) em126_11 zl_136 rfl wd_1635 wd_1637 wd_73 ((congrFun xo_12 411).trans rfl) xm_129, ag_invV H zh_136 hd (by decide)⟩) (xB_l ⟨_, zs_aload_n em126_14, as_aload⟩)))) (xB_n (xB_n (xB_n (xB_l ⟨_, zs_iload_n em126_15, as_iload⟩) (xB_l ⟨_, zs_invV (T := TX12) em126_16 zl_179 rfl wd_1711 wd_1713 wd_87 ((congrFun xo_12 383).trans rfl) xm_153, ag_invV H zh_179 hd (by decide)⟩)) (xB_n (xB_l ⟨_, zs_ifne em126_19 (t := 25) (by decide), as_if⟩) (xB_l ⟨_, zs_bipush (v := (-2)) em126_22 (by decide +kernel), as_const (by decide +kernel)⟩))) (xB_n (xB_n (xB_l ⟨_, zs_iconst (v := 0) em126_25 (by decide +kernel), as_const (by decide +kernel)⟩) (xB_l ⟨_, zs_istore_n em126_26, as_istore⟩)) (xB_n (xB_l ⟨_, zs_iconst (v := 0) em126_27 (by decide +kernel), as_const (by decide +kernel)⟩) (xB_n (xB_l ⟨_, zs_istore_n em126_28, as_istore⟩) (xB_l ⟨_, zs_iload_n em126_29, as_iload⟩)))))) (xB_n (xB_n (xB_n (xB_n (xB_l ⟨_, zs_aload_n em126_30, as_aload⟩) (xB_l ⟨_, zs_getf (T := TX12) (M := 70) (ci := 12) (j := 36) em126_31 rfl inX12 (by decide) wd_1306 ((congrFun xo_12 52).trans rfl), as_getf zTie⟩)) (xB_n (xB_l ⟨_, zs_bipush (v := 7) em126_34 (by decide +kernel), as_const (by decide +kernel)⟩) (xB_l ⟨_, zs_aload_n em126_36, as_aload⟩))) (xB_n (xB_n (xB_l ⟨_, zs_getf (T := TX12) (M := 70) (ci := 12) (j := 2) em126_37 rfl inX12 (by decide) wd_1299 ((congrFun xo_12 230).trans rfl), as_getf zTie⟩) (xB_l ⟨_, zs_imul em126_40, as_bin fmul_ok⟩)) (xB_n (xB_l ⟨_, zs_iload_n em126_41, as_iload⟩) (xB_n (xB_l ⟨_, zs_iadd em126_42, as_bin fadd_ok⟩) (xB_l ⟨_, zs_iald em126_43, ag_iald⟩))))) (xB_n (xB_n (xB_n (xB_l ⟨_, zs_icmpge em126_44 (t := 122) (by decide), as_icmp⟩) (xB_l ⟨_, zs_aload_n em126_47, as_aload⟩)) (xB_n (xB_l ⟨_, zs_getf (T := TX12) (M := 70) (ci := 12) (j := 37) em126_48 rfl inX12 (by decide) wd_1307 ((congrFun xo_12 55).trans rfl), as_getf zTie⟩) (xB_l ⟨_, zs_bipush (v := 8) em126_51 (by decide +kernel), as_const (by decide +kernel)⟩))) (xB_n (xB_n (xB_l ⟨_, zs_bipush (v := 7) em126_53 (by decide +kernel), as_const (by decide +kernel)⟩) (xB_l ⟨_, zs_aload_n em126_55, as_aload⟩)) (xB_n (xB_l ⟨_, zs_getf (T := TX12) (M := 70) (ci := 12) (j := 2) em126_56 rfl inX12 (by decide) wd_1299 ((congrFun xo_12 230).trans rfl), as_getf zTie⟩) (xB_n (xB_l ⟨_, zs_imul em126_59, as_bin fmul_ok⟩) (xB_l ⟨_, zs_iload_n em126_60, as_iload⟩))))))) (xB_n (xB_n (xB_n (xB_n (xB_n (xB_l ⟨_, zs_iadd em126_61, as_bin fadd_ok⟩) (xB_l ⟨_, zs_imul em126_62, as_bin fmul_ok⟩)) (xB_n (xB_l ⟨_, zs_iload_n em126_63, as_iload⟩) (xB_l ⟨_, zs_iadd em126_64, as_bin fadd_ok⟩))) (xB_n (xB_n (xB_l ⟨_, zs_iald em126_65, ag_iald⟩) (xB_l ⟨_, zs_istore em126_66, as_istore⟩)) (xB_n (xB_l ⟨_, zs_aload_n em126_68, as_aload⟩) (xB_n (xB_l ⟨_, zs_iload em126_69, as_iload⟩) (xB_l ⟨_, zs_iload_n em126_71, as_iload⟩))))) (xB_n (xB_n (xB_n (xB_l ⟨_, zs_invV (T := TX12) em126_72 zl_148 rfl wd_1719 wd_1721 wd_89 ((congrFun xo_12 377).trans rfl) xm_141, ag_invV H zh_148 hd (by decide)⟩) (xB_l ⟨_, zs_istore em126_75, as_istore⟩)) (xB_n (xB_l ⟨_, zs_iload em126_77, as_iload⟩) (xB_l ⟨_, zs_ifge em126_79 (t := 85) (by decide), as_if⟩))) (xB_n (xB_n (xB_l ⟨_, zs_bipush (v := (-2)) em126_82 (by decide +kernel), as_const (by decide +kernel)⟩) (xB_l ⟨_, zs_aload_n em126_85, as_aload⟩)) (xB_n (xB_l ⟨_, zs_getf (T := TX12) (M := 70) (ci := 12) (j := 59) em126_86 rfl inX12 (by decide) wd_1336 ((congrFun xo_12 365).trans rfl), as_getf zTie⟩) (xB_n (xB_l ⟨_, zs_iconst (v := 1) em126_89 (by decide +kernel), as_const (by decide +kernel)⟩) (xB_l ⟨_, zs_icmple em126_90 (t := 96) (by decide), as_icmp⟩)))))) (xB_n (xB_n (xB_n (xB_n (xB_l ⟨_, zs_iinc (k := 1) em126_93 (by decide +kernel), as_iinc (by decide +kernel)⟩) (xB_l ⟨_, zs_aload_n em126_96, as_aload⟩)) (xB_n (xB_l ⟨_, zs_getf (T := TX12) (M := 70) (ci := 12) (j := 0) em126_97 rfl inX12 (by decide) wd_1332 ((congrFun xo_12 116).trans rfl), as_getf zTie⟩) (xB_l ⟨_, zs_bipush (v := 40) em126_100 (by decide +kernel), as_const (by decide +kernel)⟩))) (xB_n (xB_n (xB_l ⟨_, zs_bipush (v := 8) em126_102 (by decide +kernel), as_const (by decide +kernel)⟩) (xB_l ⟨_, zs_iload em126_104, as_iload⟩)) (xB_n (xB_l ⟨_, zs_imul em126_106, as_bin fmul_ok⟩) (xB_n (xB_l ⟨_, zs_iadd em126_107, as_bin fadd_ok⟩) (xB_l ⟨_, zs_iload em126_108, as_iload⟩))))) (xB_n (xB_n (xB_n (xB_l ⟨_, zs_iadd em126_110, as_bin fadd_ok⟩) (xB_l ⟨_, zs_dup2 em126_111, as_dup2⟩)) (xB_n (xB_l ⟨_, zs_iald em126_112, ag_iald⟩) (xB_l ⟨_, zs_iconst (v := 1) em126_113 (by decide +kernel), as_const (by decide +kernel)⟩))) (xB_n (xB_n (xB_l ⟨_, zs_iadd em126_114, as_bin fadd_ok⟩) (xB_l ⟨_, zs_iast zInj0 em126_115, as_iast zTie⟩)) (xB_n (xB_l ⟨_, zs_iinc (k := 1) em126_116 (by decide +kernel), as_iinc (by decide +kernel)⟩) (xB_n (xB_l ⟨_, zs_goto em126_119 (t := 29) (by decide), as_goto⟩) (xB_l ⟨_, zs_iload_n em126_122, as_iload⟩))))))))
set_option maxRecDepth 100000 in
set_option maxHeartbeats 4000000 in
theorem zM_133 : zOKa 133 zc_133 := z_auto (cuts := [(29, ([(0, 0), (0, 6), (0, 1), ((-2147483648), 2147483647), (0, 8)], [], [some (.inr (.inl (0, 75))), some (.inl (1, 0)), some (.inl (3, 0)), some (.inl (4, 0)), none, none], [], [(22, 2, 0)], (0, 0)), [(0, 2), (0, 3)], 8, [0, 0, 0, 0, (-1)])]) (rets := [(9, 1), (24, 1), (84, 1), (123, 1)]) (fuel := 1000) rfl rfl (by decide) (xrt_ok (xR_c (Or.inl ⟨rfl, em126_9, rfl⟩) (xR_c (Or.inl ⟨rfl, em126_24, rfl⟩) (xR_c (Or.inl ⟨rfl, em126_84, rfl⟩) (xR_c (Or.inl ⟨rfl, em126_123, rfl⟩) (xR_n)))))) (fun _ _ H _ hd => zTo_133 H hd) (by decide +kernel)
theorem em127_0 : decode prog_14_method_78_code 0 = .ok (.aload_n 0, 1) := by decide +kernel
theorem em127_1 : decode prog_14_method_78_code 1 = .ok (.iload_n 1, 1) := by decide +kernel
theorem em127_2 : decode prog_14_method_78_code 2 = .ok (.invokevirtual 417, 3) := by decide +kernel
theorem em127_5 : decode prog_14_method_78_code 5 = .ok (.ifCond .eq 31, 3) := by decide +kernel
theorem em127_8 : decode prog_14_method_78_code 8 = .ok (.aload_n 0, 1) := by decide +kernel
theorem em127_9 : decode prog_14_method_78_code 9 = .ok (.getfield 113, 3) := by decide +kernel
theorem em127_12 : decode prog_14_method_78_code 12 = .ok (.sipush 320, 3) := by decide +kernel
theorem em127_15 : decode prog_14_method_78_code 15 = .ok (.iload_n 1, 1) := by decide +kernel
theorem em127_16 : decode prog_14_method_78_code 16 = .ok (.iadd, 1) := by decide +kernel
theorem em127_17 : decode prog_14_method_78_code 17 = .ok (.iaload, 1) := by decide +kernel
theorem em127_18 : decode prog_14_method_78_code 18 = .ok (.iconst 1, 1) := by decide +kernel
theorem em127_19 : decode prog_14_method_78_code 19 = .ok (.if_icmp .eq 19, 3) := by decide +kernel
theorem em127_22 : decode prog_14_method_78_code 22 = .ok (.aload_n 0, 1) := by decide +kernel
theorem em127_23 : decode prog_14_method_78_code 23 = .ok (.getfield 113, 3) := by decide +kernel
theorem em127_26 : decode prog_14_method_78_code 26 = .ok (.sipush 320, 3) := by decide +kernel
theorem em127_29 : decode prog_14_method_78_code 29 = .ok (.iload_n 1, 1) := by decide +kernel
theorem em127_30 : decode prog_14_method_78_code 30 = .ok (.iadd, 1) := by decide +kernel
theorem em127_31 : decode prog_14_method_78_code 31 = .ok (.iaload, 1) := by decide +kernel
theorem em127_32 : decode prog_14_method_78_code 32 = .ok (.iconst 2, 1) := by decide +kernel
theorem em127_33 : decode prog_14_method_78_code 33 = .ok (.if_icmp .eq 5, 3) := by decide +kernel
theorem em127_36 : decode prog_14_method_78_code 36 = .ok (.iconst 0, 1) := by decide +kernel
theorem em127_37 : decode prog_14_method_78_code 37 = .ok (.ireturn, 1) := by decide +kernel
theorem em127_38 : decode prog_14_method_78_code 38 = .ok (.aload_n 0, 1) := by decide +kernel
theorem em127_39 : decode prog_14_method_78_code 39 = .ok (.invokevirtual 411, 3) := by decide +kernel
theorem em127_42 : decode prog_14_method_78_code 42 = .ok (.aload_n 0, 1) := by decide +kernel
theorem em127_43 : decode prog_14_method_78_code 43 = .ok (.iload_n 1, 1) := by decide +kernel
theorem em127_44 : decode prog_14_method_78_code 44 = .ok (.invokevirtual 380, 3) := by decide +kernel
theorem em127_47 : decode prog_14_method_78_code 47 = .ok (.aload_n 0, 1) := by decide +kernel
theorem em127_48 : decode prog_14_method_78_code 48 = .ok (.getfield 116, 3) := by decide +kernel
theorem em127_51 : decode prog_14_method_78_code 51 = .ok (.sipush 320, 3) := by decide +kernel
theorem em127_54 : decode prog_14_method_78_code 54 = .ok (.iload_n 1, 1) := by decide +kernel
theorem em127_55 : decode prog_14_method_78_code 55 = .ok (.iadd, 1) := by decide +kernel
theorem em127_56 : decode prog_14_method_78_code 56 = .ok (.aload_n 0, 1) := by decide +kernel
theorem em127_57 : decode prog_14_method_78_code 57 = .ok (.getfield 116, 3) := by decide +kernel
theorem em127_60 : decode prog_14_method_78_code 60 = .ok (.sipush 320, 3) := by decide +kernel
theorem em127_63 : decode prog_14_method_78_code 63 = .ok (.iload_n 1, 1) := by decide +kernel
theorem em127_64 : decode prog_14_method_78_code 64 = .ok (.iadd, 1) := by decide +kernel
theorem em127_65 : decode prog_14_method_78_code 65 = .ok (.iaload, 1) := by decide +kernel
theorem em127_66 : decode prog_14_method_78_code 66 = .ok (.iconst 2, 1) := by decide +kernel
theorem em127_67 : decode prog_14_method_78_code 67 = .ok (.if_icmp .ne 7, 3) := by decide +kernel
theorem em127_70 : decode prog_14_method_78_code 70 = .ok (.iconst 3, 1) := by decide +kernel
theorem em127_71 : decode prog_14_method_78_code 71 = .ok (.goto 4, 3) := by decide +kernel
theorem em127_74 : decode prog_14_method_78_code 74 = .ok (.iconst 0, 1) := by decide +kernel
theorem em127_75 : decode prog_14_method_78_code 75 = .ok (.iastore, 1) := by decide +kernel
theorem em127_76 : decode prog_14_method_78_code 76 = .ok (.aload_n 0, 1) := by decide +kernel
theorem em127_77 : decode prog_14_method_78_code 77 = .ok (.invokevirtual 424, 3) := by decide +kernel
theorem em127_80 : decode prog_14_method_78_code 80 = .ok (.iconst 1, 1) := by decide +kernel
theorem em127_81 : decode prog_14_method_78_code 81 = .ok (.ireturn, 1) := by decide +kernel
/-! CapitalCaseModel.clear:(I)Z -/
noncomputable def zTr_134 : Nat → Option aF := bn 42 (bn 19 (bn 9 (bn 2 (bn 1 (bl 0 (a_aload 0 1)) (bl 1 (a_iload 1 2))) (bn 5 (bl 2 (a_invV zG0 zprot (true, false) zc_181 (zbd 181) (3, 0, 0) 12 2 5)) (bn 8 (bl 5 (a_if 0 36 8)) (bl 8 (a_aload 0 9))))) (bn 16 (bn 12 (bl 9 (a_getf zG0 zT0 12 1 12)) (bn 15 (bl 12 (a_const 320 15)) (bl 15 (a_iload 1 16)))) (bn 17 (bl 16 (a_bin fadd 17)) (bn 18 (bl 17 (a_ald zG0 zT0 (true, false) ts0 18)) (bl 18 (a_const 1 19)))))) (bn 31 (bn 26 (bn 22 (bl 19 (a_icmp 0 38 22)) (bn 23 (bl 22 (a_aload 0 23)) (bl 23 (a_getf zG0 zT0 12 1 26)))) (bn 29 (bl 26 (a_const 320 29)) (bn 30 (bl 29 (a_iload 1 30)) (bl 30 (a_bin fadd 31))))) (bn 36 (bn 32 (bl 31 (a_ald zG0 zT0 (true, false) ts0 32)) (bn 33 (bl 32 (a_const 2 33)) (bl 33 (a_icmp 0 38 36)))) (bn 38 (bl 36 (a_const 0 37)) (bn 39 (bl 38 (a_aload 0 39)) (bl 39 (a_invV zG0 zprot (true, false) zc_136 (zbd 136) (3, 0, 0) 12 1 42))))))) (bn 63 (bn 51 (bn 44 (bn 43 (bl 42 (a_aload 0 43)) (bl 43 (a_iload 1 44))) (bn 47 (bl 44 (a_invV zG0 zprot (true, false) zc_135 (zbd 135) (3, 0, 0) 12 2 47)) (bn 48 (bl 47 (a_aload 0 48)) (bl 48 (a_getf zG0 zT0 12 0 51))))) (bn 56 (bn 54 (bl 51 (a_const 320 54)) (bn 55 (bl 54 (a_iload 1 55)) (bl 55 (a_bin fadd 56)))) (bn 57 (bl 56 (a_aload 0 57)) (bn 60 (bl 57 (a_getf zG0 zT0 12 0 60)) (bl 60 (a_const 320 63)))))) (bn 71 (bn 66 (bn 64 (bl 63 (a_iload 1 64)) (bn 65 (bl 64 (a_bin fadd 65)) (bl 65 (a_ald zG0 zT0 (true, false) ts0 66)))) (bn 67 (bl 66 (a_const 2 67)) (bn 70 (bl 67 (a_icmp 1 74 70)) (bl 70 (a_const 3 71))))) (bn 76 (bn 74 (bl 71 (a_goto 75)) (bn 75 (bl 74 (a_const 0 75)) (bl 75 (a_ast zG0 zT0 ts0 76)))) (bn 77 (bl 76 (a_aload 0 77)) (bn 80 (bl 77 (a_invV zG0 zprot (true, false) zc_208 (zbd 208) (3, 0, 0) 12 1 80)) (bl 80 (a_const 1 81)))))))
set_option maxRecDepth 100000 in
set_option maxHeartbeats 4000000 in
theorem zTo_134 {pre : zPre} {post : zPost} (H : zTieC pre post) {d : Nat × Nat × Nat} (hd : zLe (3, 0, 0) d) : aTr zG0 zT0 zInv (true, false) PZ zbd pre post d prog_14_method_78_code "CapitalCaseModel" zTr_134 := (xB_n (xB_n (xB_n (xB_n (xB_n (xB_l ⟨_, zs_aload_n em127_0, as_aload⟩) (xB_l ⟨_, zs_iload_n em127_1, as_iload⟩)) (xB_n (xB_l ⟨_, zs_invV (T := TX12) em127_2 zl_181 rfl wd_1678 wd_1680 wd_82 ((congrFun xo_12 417).trans rfl) xm_155, ag_invV H zh_181 hd (by decide)⟩) (xB_n (xB_l ⟨_, zs_ifeq em127_5 (t := 36) (by decide), as_if⟩) (xB_l ⟨_, zs_aload_n em127_8, as_aload⟩)))) (xB_n (xB_n (xB_l ⟨_, zs_getf (T := TX12) (M := 70) (ci := 12) (j := 1) em127_9 rfl inX12 (by decide) wd_1331 ((congrFun xo_12 113).trans rfl), as_getf zTie⟩) (xB_n (xB_l ⟨_, zs_sipush (v := 320) em127_12 (by decide +kernel), as_const (by decide +kernel)⟩) (xB_l ⟨_, zs_iload_n em127_15, as_iload⟩))) (xB_n (xB_l ⟨_, zs_iadd em127_16, as_bin fadd_ok⟩) (xB_n (xB_l ⟨_, zs_iald em127_17, ag_iald⟩) (xB_l ⟨_, zs_iconst (v := 1) em127_18 (by decide +kernel), as_const (by decide +kernel)⟩))))) (xB_n (xB_n (xB_n (xB_l ⟨_, zs_icmpeq em127_19 (t := 38) (by decide), as_icmp⟩) (xB_n (xB_l ⟨_, zs_aload_n em127_22, as_aload⟩) (xB_l ⟨_, zs_getf (T := TX12) (M := 70) (ci := 12) (j := 1) em127_23 rfl inX12 (by decide) wd_1331 ((congrFun xo_12 113).trans rfl), as_getf zTie⟩))) (xB_n (xB_l ⟨_, zs_sipush (v := 320) em127_26 (by decide +kernel), as_const (by decide +kernel)⟩) (xB_n (xB_l ⟨_, zs_iload_n em127_29, as_iload⟩) (xB_l ⟨_, zs_iadd em127_30, as_bin fadd_ok⟩)))) (xB_n (xB_n (xB_l ⟨_, zs_iald em127_31, ag_iald⟩) (xB_n (xB_l ⟨_, zs_iconst (v := 2) em127_32 (by decide +kernel), as_const (by decide +kernel)⟩) (xB_l ⟨_, zs_icmpeq em127_33 (t := 38) (by decide), as_icmp⟩))) (xB_n (xB_l ⟨_, zs_iconst (v := 0) em127_36 (by decide +kernel), as_const (by decide +kernel)⟩) (xB_n (xB_l ⟨_, zs_aload_n em127_38, as_aload⟩) (xB_l ⟨_, zs_invV (T := TX12) em127_39 zl_136 rfl wd_1635 wd_1637 wd_73 ((congrFun xo_12 411).trans rfl) xm_129, ag_invV H zh_136 hd (by decide)⟩)))))) (xB_n (xB_n (xB_n (xB_n (xB_l ⟨_, zs_aload_n em127_42, as_aload⟩) (xB_l ⟨_, zs_iload_n em127_43, as_iload⟩)) (xB_n (xB_l ⟨_, zs_invV (T := TX12) em127_44 zl_135 rfl wd_1723 wd_1725 wd_90 ((congrFun xo_12 380).trans rfl) xm_128, ag_invV H zh_135 hd (by decide)⟩) (xB_n (xB_l ⟨_, zs_aload_n em127_47, as_aload⟩) (xB_l ⟨_, zs_getf (T := TX12) (M := 70) (ci := 12) (j := 0) em127_48 rfl inX12 (by decide) wd_1332 ((congrFun xo_12 116).trans rfl), as_getf zTie⟩)))) (xB_n (xB_n (xB_l ⟨_, zs_sipush (v := 320) em127_51 (by decide +kernel), as_const (by decide +kernel)⟩) (xB_n (xB_l ⟨_, zs_iload_n em127_54, as_iload⟩) (xB_l ⟨_, zs_iadd em127_55, as_bin fadd_ok⟩))) (xB_n (xB_l ⟨_, zs_aload_n em127_56, as_aload⟩) (xB_n (xB_l ⟨_, zs_getf (T := TX12) (M := 70) (ci := 12) (j := 0) em127_57 rfl inX12 (by decide) wd_1332 ((congrFun xo_12 116).trans rfl), as_getf zTie⟩) (xB_l ⟨_, zs_sipush (v := 320) em127_60 (by decide +kernel), as_const (by decide +kernel)⟩))))) (xB_n (xB_n (xB_n (xB_l ⟨_, zs_iload_n em127_63, as_iload⟩) (xB_n (xB_l ⟨_, zs_iadd em127_64, as_bin fadd_ok⟩) (xB_l ⟨_, zs_iald em127_65, ag_iald⟩))) (xB_n (xB_l ⟨_, zs_iconst (v := 2) em127_66 (by decide +kernel), as_const (by decide +kernel)⟩) (xB_n (xB_l ⟨_, zs_icmpne em127_67 (t := 74) (by decide), as_icmp⟩) (xB_l ⟨_, zs_iconst (v := 3) em127_70 (by decide +kernel), as_const (by decide +kernel)⟩)))) (xB_n (xB_n (xB_l ⟨_, zs_goto em127_71 (t := 75) (by decide), as_goto⟩) (xB_n (xB_l ⟨_, zs_iconst (v := 0) em127_74 (by decide +kernel), as_const (by decide +kernel)⟩) (xB_l ⟨_, zs_iast zInj0 em127_75, as_iast zTie⟩))) (xB_n (xB_l ⟨_, zs_aload_n em127_76, as_aload⟩) (xB_n (xB_l ⟨_, zs_invV (T := TX12) em127_77 zl_208 rfl wd_1727 wd_1729 wd_91 ((congrFun xo_12 424).trans rfl) xm_181, ag_invV H zh_208 hd (by decide)⟩) (xB_l ⟨_, zs_iconst (v := 1) em127_80 (by decide +kernel), as_const (by decide +kernel)⟩)))))))
set_option maxRecDepth 100000 in
set_option maxHeartbeats 4000000 in
theorem zM_134 : zOKa 134 zc_134 := z_auto (cuts := []) (rets := [(37, 2), (81, 2)]) (fuel := 1000) rfl rfl (by decide) (xrt_ok (xR_c (Or.inr (Or.inl ⟨rfl, em127_37, rfl⟩)) (xR_c (Or.inr (Or.inl ⟨rfl, em127_81, rfl⟩)) (xR_n)))) (fun _ _ H _ hd => zTo_134 H hd) (by decide +kernel)
theorem em128_0 : decode prog_14_method_64_code 0 = .ok (.iconst 0, 1) := by decide +kernel
theorem em128_1 : decode prog_14_method_64_code 1 = .ok (.istore_n 2, 1) := by decide +kernel
theorem em128_2 : decode prog_14_method_64_code 2 = .ok (.iload_n 2, 1) := by decide +kernel
theorem em128_3 : decode prog_14_method_64_code 3 = .ok (.aload_n 0, 1) := by decide +kernel
theorem em128_4 : decode prog_14_method_64_code 4 = .ok (.getfield 52, 3) := by decide +kernel
theorem em128_7 : decode prog_14_method_64_code 7 = .ok (.bipush 7, 2) := by decide +kernel
theorem em128_9 : decode prog_14_method_64_code 9 = .ok (.aload_n 0, 1) := by decide +kernel
theorem em128_10 : decode prog_14_method_64_code 10 = .ok (.getfield 230, 3) := by decide +kernel
theorem em128_13 : decode prog_14_method_64_code 13 = .ok (.imul, 1) := by decide +kernel
theorem em128_14 : decode prog_14_method_64_code 14 = .ok (.iload_n 1, 1) := by decide +kernel
theorem em128_15 : decode prog_14_method_64_code 15 = .ok (.iadd, 1) := by decide +kernel
theorem em128_16 : decode prog_14_method_64_code 16 = .ok (.iaload, 1) := by decide +kernel
theorem em128_17 : decode prog_14_method_64_code 17 = .ok (.if_icmp .ge 77, 3) := by decide +kernel
theorem em128_20 : decode prog_14_method_64_code 20 = .ok (.aload_n 0, 1) := by decide +kernel
theorem em128_21 : decode prog_14_method_64_code 21 = .ok (.getfield 116, 3) := by decide +kernel
theorem em128_24 : decode prog_14_method_64_code 24 = .ok (.sipush 330, 3) := by decide +kernel
theorem em128_27 : decode prog_14_method_64_code 27 = .ok (.bipush 8, 2) := by decide +kernel
theorem em128_29 : decode prog_14_method_64_code 29 = .ok (.iload_n 1, 1) := by decide +kernel
theorem em128_30 : decode prog_14_method_64_code 30 = .ok (.imul, 1) := by decide +kernel
theorem em128_31 : decode prog_14_method_64_code 31 = .ok (.iadd, 1) := by decide +kernel
theorem em128_32 : decode prog_14_method_64_code 32 = .ok (.iload_n 2, 1) := by decide +kernel
theorem em128_33 : decode prog_14_method_64_code 33 = .ok (.iadd, 1) := by decide +kernel
theorem em128_34 : decode prog_14_method_64_code 34 = .ok (.iaload, 1) := by decide +kernel
theorem em128_35 : decode prog_14_method_64_code 35 = .ok (.ifCond .lt 53, 3) := by decide +kernel
theorem em128_38 : decode prog_14_method_64_code 38 = .ok (.aload_n 0, 1) := by decide +kernel
theorem em128_39 : decode prog_14_method_64_code 39 = .ok (.getfield 116, 3) := by decide +kernel
theorem em128_42 : decode prog_14_method_64_code 42 = .ok (.bipush 40, 2) := by decide +kernel
theorem em128_44 : decode prog_14_method_64_code 44 = .ok (.bipush 8, 2) := by decide +kernel
theorem em128_46 : decode prog_14_method_64_code 46 = .ok (.aload_n 0, 1) := by decide +kernel
theorem em128_47 : decode prog_14_method_64_code 47 = .ok (.getfield 116, 3) := by decide +kernel
theorem em128_50 : decode prog_14_method_64_code 50 = .ok (.sipush 330, 3) := by decide +kernel
theorem em128_53 : decode prog_14_method_64_code 53 = .ok (.bipush 8, 2) := by decide +kernel
theorem em128_55 : decode prog_14_method_64_code 55 = .ok (.iload_n 1, 1) := by decide +kernel
theorem em128_56 : decode prog_14_method_64_code 56 = .ok (.imul, 1) := by decide +kernel
theorem em128_57 : decode prog_14_method_64_code 57 = .ok (.iadd, 1) := by decide +kernel
theorem em128_58 : decode prog_14_method_64_code 58 = .ok (.iload_n 2, 1) := by decide +kernel
theorem em128_59 : decode prog_14_method_64_code 59 = .ok (.iadd, 1) := by decide +kernel
theorem em128_60 : decode prog_14_method_64_code 60 = .ok (.iaload, 1) := by decide +kernel
theorem em128_61 : decode prog_14_method_64_code 61 = .ok (.imul, 1) := by decide +kernel
theorem em128_62 : decode prog_14_method_64_code 62 = .ok (.iadd, 1) := by decide +kernel
theorem em128_63 : decode prog_14_method_64_code 63 = .ok (.aload_n 0, 1) := by decide +kernel
theorem em128_64 : decode prog_14_method_64_code 64 = .ok (.getfield 55, 3) := by decide +kernel
theorem em128_67 : decode prog_14_method_64_code 67 = .ok (.bipush 8, 2) := by decide +kernel
theorem em128_69 : decode prog_14_method_64_code 69 = .ok (.bipush 7, 2) := by decide +kernel
theorem em128_71 : decode prog_14_method_64_code 71 = .ok (.aload_n 0, 1) := by decide +kernel
theorem em128_72 : decode prog_14_method_64_code 72 = .ok (.getfield 230, 3) := by decide +kernel
theorem em128_75 : decode prog_14_method_64_code 75 = .ok (.imul, 1) := by decide +kernel
theorem em128_76 : decode prog_14_method_64_code 76 = .ok (.iload_n 1, 1) := by decide +kernel
theorem em128_77 : decode prog_14_method_64_code 77 = .ok (.iadd, 1) := by decide +kernel
theorem em128_78 : decode prog_14_method_64_code 78 = .ok (.imul, 1) := by decide +kernel
theorem em128_79 : decode prog_14_method_64_code 79 = .ok (.iload_n 2, 1) := by decide +kernel
theorem em128_80 : decode prog_14_method_64_code 80 = .ok (.iadd, 1) := by decide +kernel
theorem em128_81 : decode prog_14_method_64_code 81 = .ok (.iaload, 1) := by decide +kernel
theorem em128_82 : decode prog_14_method_64_code 82 = .ok (.iadd, 1) := by decide +kernel
theorem em128_83 : decode prog_14_method_64_code 83 = .ok (.dup2, 1) := by decide +kernel
theorem em128_84 : decode prog_14_method_64_code 84 = .ok (.iaload, 1) := by decide +kernel
theorem em128_85 : decode prog_14_method_64_code 85 = .ok (.iconst 1, 1) := by decide +kernel
theorem em128_86 : decode prog_14_method_64_code 86 = .ok (.isub, 1) := by decide +kernel
theorem em128_87 : decode prog_14_method_64_code 87 = .ok (.iastore, 1) := by decide +kernel
theorem em128_88 : decode prog_14_method_64_code 88 = .ok (.iinc 2 1, 3) := by decide +kernel
theorem em128_91 : decode prog_14_method_64_code 91 = .ok (.goto (-89), 3) := by decide +kernel
theorem em128_94 : decode prog_14_method_64_code 94 = .ok (.return_, 1) := by decide +kernel
/-! CapitalCaseModel.clears:(I)V -/
noncomputable def zTr_135 : Nat → Option aF := bn 50 (bn 24 (bn 10 (bn 3 (bn 1 (bl 0 (a_const 0 1)) (bn 2 (bl 1 (a_istore 2 2)) (bl 2 (a_iload 2 3)))) (bn 7 (bn 4 (bl 3 (a_aload 0 4)) (bl 4 (a_getf zG0 zT0 12 36 7))) (bn 9 (bl 7 (a_const 7 9)) (bl 9 (a_aload 0 10))))) (bn 16 (bn 14 (bn 13 (bl 10 (a_getf zG0 zT0 12 2 13)) (bl 13 (a_bin fmul 14))) (bn 15 (bl 14 (a_iload 1 15)) (bl 15 (a_bin fadd 16)))) (bn 20 (bn 17 (bl 16 (a_ald zG0 zT0 (false, false) ts0 17)) (bl 17 (a_icmp 3 94 20))) (bn 21 (bl 20 (a_aload 0 21)) (bl 21 (a_getf zG0 zT0 12 0 24)))))) (bn 34 (bn 30 (bn 27 (bl 24 (a_const 330 27)) (bn 29 (bl 27 (a_const 8 29)) (bl 29 (a_iload 1 30)))) (bn 32 (bn 31 (bl 30 (a_bin fmul 31)) (bl 31 (a_bin fadd 32))) (bn 33 (bl 32 (a_iload 2 33)) (bl 33 (a_bin fadd 34))))) (bn 42 (bn 38 (bn 35 (bl 34 (a_ald zG0 zT0 (false, false) ts0 35)) (bl 35 (a_if 2 88 38))) (bn 39 (bl 38 (a_aload 0 39)) (bl 39 (a_getf zG0 zT0 12 0 42)))) (bn 46 (bn 44 (bl 42 (a_const 40 44)) (bl 44 (a_const 8 46))) (bn 47 (bl 46 (a_aload 0 47)) (bl 47 (a_getf zG0 zT0 12 0 50))))))) (bn 72 (bn 60 (bn 56 (bn 53 (bl 50 (a_const 330 53)) (bn 55 (bl 53 (a_const 8 55)) (bl 55 (a_iload 1 56)))) (bn 58 (bn 57 (bl 56 (a_bin fmul 57)) (bl 57 (a_bin fadd 58))) (bn 59 (bl 58 (a_iload 2 59)) (bl 59 (a_bin fadd 60))))) (bn 64 (bn 62 (bn 61 (bl 60 (a_ald zG0 zT0 (false, false) ts0 61)) (bl 61 (a_bin fmul 62))) (bn 63 (bl 62 (a_bin fadd 63)) (bl 63 (a_aload 0 64)))) (bn 69 (bn 67 (bl 64 (a_getf zG0 zT0 12 37 67)) (bl 67 (a_const 8 69))) (bn 71 (bl 69 (a_const 7 71)) (bl 71 (a_aload 0 72)))))) (bn 82 (bn 78 (bn 76 (bn 75 (bl 72 (a_getf zG0 zT0 12 2 75)) (bl 75 (a_bin fmul 76))) (bn 77 (bl 76 (a_iload 1 77)) (bl 77 (a_bin fadd 78)))) (bn 80 (bn 79 (bl 78 (a_bin fmul 79)) (bl 79 (a_iload 2 80))) (bn 81 (bl 80 (a_bin fadd 81)) (bl 81 (a_ald zG0 zT0 (false, false) ts0 82))))) (bn 86 (bn 84 (bn 83 (bl 82 (a_bin fadd 83)) (bl 83 (a_dup2 84))) (bn 85 (bl 84 (a_ald zG0 zT0 (false, false) ts0 85)) (bl 85 (a_const 1 86)))) (bn 88 (bn 87 (bl 86 (a_bin fsub 87)) (bl 87 (a_ast zG0 zT0 ts0 88))) (bn 91 (bl 88 (a_iinc 2 1 91)) (bl 91 (a_goto 2)))))))
set_option maxRecDepth 100000 in
set_option maxHeartbeats 4000000 in
theorem zTo_135 {pre : zPre} {post : zPost} (H : zTieC pre post) {d : Nat × Nat × Nat} (hd : zLe (0, 0, 0) d) : aTr zG0 zT0 zInv (false, false) PZ zbd pre post d prog_14_method_64_code "CapitalCaseModel" zTr_135 := (xB_n (xB_n (xB_n (xB_n (xB_n (xB_l ⟨_, zs_iconst (v := 0) em128_0 (by decide +kernel), as_const (by decide +kernel)⟩) (xB_n (xB_l ⟨_, zs_istore_n em128_1, as_istore⟩) (xB_l ⟨_, zs_iload_n em128_2, as_iload⟩))) (xB_n (xB_n (xB_l ⟨_, zs_aload_n em128_3, as_aload⟩) (xB_l ⟨_, zs_getf (T := TX12) (M := 70) (ci := 12) (j := 36) em128_4 rfl inX12 (by decide) wd_1306 ((congrFun xo_12 52).trans rfl), as_getf zTie⟩)) (xB_n (xB_l ⟨_, zs_bipush (v := 7) em128_7 (by decide +kernel), as_const (by decide +kernel)⟩) (xB_l ⟨_, zs_aload_n em128_9, as_aload⟩)))) (xB_n (xB_n (xB_n (xB_l ⟨_, zs_getf (T := TX12) (M := 70) (ci := 12) (j := 2) em128_10 rfl inX12 (by decide) wd_1299 ((congrFun xo_12 230).trans rfl), as_getf zTie⟩) (xB_l ⟨_, zs_imul em128_13, as_bin fmul_ok⟩)) (xB_n (xB_l ⟨_, zs_iload_n em128_14, as_iload⟩) (xB_l ⟨_, zs_iadd em128_15, as_bin fadd_ok⟩))) (xB_n (xB_n (xB_l ⟨_, zs_iald em128_16, ag_iald⟩) (xB_l ⟨_, zs_icmpge em128_17 (t := 94) (by decide), as_icmp⟩)) (xB_n (xB_l ⟨_, zs_aload_n em128_20, as_aload⟩) (xB_l ⟨_, zs_getf (T := TX12) (M := 70) (ci := 12) (j := 0) em128_21 rfl inX12 (by decide) wd_1332 ((congrFun xo_12 116).trans rfl), as_getf zTie⟩))))) (xB_n (xB_n (xB_n (xB_l ⟨_, zs_sipush (v := 330) em128_24 (by decide +kernel), as_const (by decide +kernel)⟩) (xB_n (xB_l ⟨_, zs_bipush (v := 8) em128_27 (by decide +kernel), as_const (by decide +kernel)⟩) (xB_l ⟨_, zs_iload_n em128_29, as_iload⟩))) (xB_n (xB_n (xB_l ⟨_, zs_imul em128_30, as_bin fmul_ok⟩) (xB_l ⟨_, zs_iadd em128_31, as_bin fadd_ok⟩)) (xB_n (xB_l ⟨_, zs_iload_n em128_32, as_iload⟩) (xB_l ⟨_, zs_iadd em128_33, as_bin fadd_ok⟩)))) (xB_n (xB_n (xB_n (xB_l ⟨_, zs_iald em128_34, ag_iald⟩) (xB_l ⟨_, zs_iflt em128_35 (t := 88) (by decide), as_if⟩)) (xB_n (xB_l ⟨_, zs_aload_n em128_38, as_aload⟩) (xB_l ⟨_, zs_getf (T := TX12) (M := 70) (ci := 12) (j := 0) em128_39 rfl inX12 (by decide) wd_1332 ((congrFun xo_12 116).trans rfl), as_getf zTie⟩))) (xB_n (xB_n (xB_l ⟨_, zs_bipush (v := 40) em128_42 (by decide +kernel), as_const (by decide +kernel)⟩) (xB_l ⟨_, zs_bipush (v := 8) em128_44 (by decide +kernel), as_const (by decide +kernel)⟩)) (xB_n (xB_l ⟨_, zs_aload_n em128_46, as_aload⟩) (xB_l ⟨_, zs_getf (T := TX12) (M := 70) (ci := 12) (j := 0) em128_47 rfl inX12 (by decide) wd_1332 ((congrFun xo_12 116).trans rfl), as_getf zTie⟩)))))) (xB_n (xB_n (xB_n (xB_n (xB_l ⟨_, zs_sipush (v := 330) em128_50 (by decide +kernel), as_const (by decide +kernel)⟩) (xB_n (xB_l ⟨_, zs_bipush (v := 8) em128_53 (by decide +kernel), as_const (by decide +kernel)⟩) (xB_l ⟨_, zs_iload_n em128_55, as_iload⟩))) (xB_n (xB_n (xB_l ⟨_, zs_imul em128_56, as_bin fmul_ok⟩) (xB_l ⟨_, zs_iadd em128_57, as_bin fadd_ok⟩)) (xB_n (xB_l ⟨_, zs_iload_n em128_58, as_iload⟩) (xB_l ⟨_, zs_iadd em128_59, as_bin fadd_ok⟩)))) (xB_n (xB_n (xB_n (xB_l ⟨_, zs_iald em128_60, ag_iald⟩) (xB_l ⟨_, zs_imul em128_61, as_bin fmul_ok⟩)) (xB_n (xB_l ⟨_, zs_iadd em128_62, as_bin fadd_ok⟩) (xB_l ⟨_, zs_aload_n em128_63, as_aload⟩))) (xB_n (xB_n (xB_l ⟨_, zs_getf (T := TX12) (M := 70) (ci := 12) (j := 37) em128_64 rfl inX12 (by decide) wd_1307 ((congrFun xo_12 55).trans rfl), as_getf zTie⟩) (xB_l ⟨_, zs_bipush (v := 8) em128_67 (by decide +kernel), as_const (by decide +kernel)⟩)) (xB_n (xB_l ⟨_, zs_bipush (v := 7) em128_69 (by decide +kernel), as_const (by decide +kernel)⟩) (xB_l ⟨_, zs_aload_n em128_71, as_aload⟩))))) (xB_n (xB_n (xB_n (xB_n (xB_l ⟨_, zs_getf (T := TX12) (M := 70) (ci := 12) (j := 2) em128_72 rfl inX12 (by decide) wd_1299 ((congrFun xo_12 230).trans rfl), as_getf zTie⟩) (xB_l ⟨_, zs_imul em128_75, as_bin fmul_ok⟩)) (xB_n (xB_l ⟨_, zs_iload_n em128_76, as_iload⟩) (xB_l ⟨_, zs_iadd em128_77, as_bin fadd_ok⟩))) (xB_n (xB_n (xB_l ⟨_, zs_imul em128_78, as_bin fmul_ok⟩) (xB_l ⟨_, zs_iload_n em128_79, as_iload⟩)) (xB_n (xB_l ⟨_, zs_iadd em128_80, as_bin fadd_ok⟩) (xB_l ⟨_, zs_iald em128_81, ag_iald⟩)))) (xB_n (xB_n (xB_n (xB_l ⟨_, zs_iadd em128_82, as_bin fadd_ok⟩) (xB_l ⟨_, zs_dup2 em128_83, as_dup2⟩)) (xB_n (xB_l ⟨_, zs_iald em128_84, ag_iald⟩) (xB_l ⟨_, zs_iconst (v := 1) em128_85 (by decide +kernel), as_const (by decide +kernel)⟩))) (xB_n (xB_n (xB_l ⟨_, zs_isub em128_86, as_bin fsub_ok⟩) (xB_l ⟨_, zs_iast zInj0 em128_87, as_iast zTie⟩)) (xB_n (xB_l ⟨_, zs_iinc (k := 1) em128_88 (by decide +kernel), as_iinc (by decide +kernel)⟩) (xB_l ⟨_, zs_goto em128_91 (t := 2) (by decide), as_goto⟩)))))))
set_option maxRecDepth 100000 in
set_option maxHeartbeats 4000000 in
theorem zM_135 : zOKa 135 zc_135 := z_auto (cuts := [(2, ([(0, 0), (0, 6), (0, 1), (0, 8)], [], [some (.inr (.inl (0, 75))), some (.inl (1, 0)), some (.inl (3, 0))], [], [(22, 2, 0)], (0, 0)), [(0, 2)], 8, [0, 0, 0, (-1)])]) (rets := [(94, 3)]) (fuel := 1000) rfl rfl (by decide) (xrt_ok (xR_c (Or.inr (Or.inr (Or.inl ⟨rfl, em128_94, rfl⟩))) (xR_n))) (fun _ _ H _ hd => zTo_135 H hd) (by decide +kernel)
theorem em129_0 : decode prog_14_method_48_code 0 = .ok (.iconst 0, 1) := by decide +kernel
theorem em129_1 : decode prog_14_method_48_code 1 = .ok (.istore_n 1, 1) := by decide +kernel
theorem em129_2 : decode prog_14_method_48_code 2 = .ok (.iload_n 1, 1) := by decide +kernel
theorem em129_3 : decode prog_14_method_48_code 3 = .ok (.sipush 390, 3) := by decide +kernel
theorem em129_6 : decode prog_14_method_48_code 6 = .ok (.if_icmp .ge 21, 3) := by decide +kernel
theorem em129_9 : decode prog_14_method_48_code 9 = .ok (.aload_n 0, 1) := by decide +kernel
theorem em129_10 : decode prog_14_method_48_code 10 = .ok (.getfield 116, 3) := by decide +kernel
theorem em129_13 : decode prog_14_method_48_code 13 = .ok (.iload_n 1, 1) := by decide +kernel
theorem em129_14 : decode prog_14_method_48_code 14 = .ok (.aload_n 0, 1) := by decide +kernel
theorem em129_15 : decode prog_14_method_48_code 15 = .ok (.getfield 113, 3) := by decide +kernel
theorem em129_18 : decode prog_14_method_48_code 18 = .ok (.iload_n 1, 1) := by decide +kernel
theorem em129_19 : decode prog_14_method_48_code 19 = .ok (.iaload, 1) := by decide +kernel
theorem em129_20 : decode prog_14_method_48_code 20 = .ok (.iastore, 1) := by decide +kernel
theorem em129_21 : decode prog_14_method_48_code 21 = .ok (.iinc 1 1, 3) := by decide +kernel
theorem em129_24 : decode prog_14_method_48_code 24 = .ok (.goto (-22), 3) := by decide +kernel
theorem em129_27 : decode prog_14_method_48_code 27 = .ok (.aload_n 0, 1) := by decide +kernel
theorem em129_28 : decode prog_14_method_48_code 28 = .ok (.aload_n 0, 1) := by decide +kernel
theorem em129_29 : decode prog_14_method_48_code 29 = .ok (.getfield 70, 3) := by decide +kernel
theorem em129_32 : decode prog_14_method_48_code 32 = .ok (.aload_n 0, 1) := by decide +kernel
theorem em129_33 : decode prog_14_method_48_code 33 = .ok (.getfield 230, 3) := by decide +kernel
theorem em129_36 : decode prog_14_method_48_code 36 = .ok (.iaload, 1) := by decide +kernel
theorem em129_37 : decode prog_14_method_48_code 37 = .ok (.putfield 328, 3) := by decide +kernel
theorem em129_40 : decode prog_14_method_48_code 40 = .ok (.aload_n 0, 1) := by decide +kernel
theorem em129_41 : decode prog_14_method_48_code 41 = .ok (.iconst 0, 1) := by decide +kernel
theorem em129_42 : decode prog_14_method_48_code 42 = .ok (.putfield 331, 3) := by decide +kernel
theorem em129_45 : decode prog_14_method_48_code 45 = .ok (.aload_n 0, 1) := by decide +kernel
theorem em129_46 : decode prog_14_method_48_code 46 = .ok (.iconst (-1), 1) := by decide +kernel
theorem em129_47 : decode prog_14_method_48_code 47 = .ok (.putfield 334, 3) := by decide +kernel
theorem em129_50 : decode prog_14_method_48_code 50 = .ok (.return_, 1) := by decide +kernel
/-! CapitalCaseModel.copies:()V -/
noncomputable def zTr_136 : Nat → Option aF := bn 24 (bn 13 (bn 3 (bn 1 (bl 0 (a_const 0 1)) (bn 2 (bl 1 (a_istore 1 2)) (bl 2 (a_iload 1 3)))) (bn 9 (bn 6 (bl 3 (a_const 390 6)) (bl 6 (a_icmp 3 27 9))) (bn 10 (bl 9 (a_aload 0 10)) (bl 10 (a_getf zG0 zT0 12 0 13))))) (bn 18 (bn 14 (bl 13 (a_iload 1 14)) (bn 15 (bl 14 (a_aload 0 15)) (bl 15 (a_getf zG0 zT0 12 1 18)))) (bn 20 (bn 19 (bl 18 (a_iload 1 19)) (bl 19 (a_ald zG0 zT0 (false, false) ts0 20))) (bn 21 (bl 20 (a_ast zG0 zT0 ts0 21)) (bl 21 (a_iinc 1 1 24)))))) (bn 37 (bn 29 (bn 27 (bl 24 (a_goto 2)) (bn 28 (bl 27 (a_aload 0 28)) (bl 28 (a_aload 0 29)))) (bn 33 (bn 32 (bl 29 (a_getf zG0 zT0 12 5 32)) (bl 32 (a_aload 0 33))) (bn 36 (bl 33 (a_getf zG0 zT0 12 2 36)) (bl 36 (a_ald zG0 zT0 (false, false) ts0 37))))) (bn 42 (bn 40 (bl 37 (a_puti zG0 zT0 zprot 12 6 0 40)) (bn 41 (bl 40 (a_aload 0 41)) (bl 41 (a_const 0 42)))) (bn 46 (bn 45 (bl 42 (a_puti zG0 zT0 zprot 12 7 1 45)) (bl 45 (a_aload 0 46))) (bn 47 (bl 46 (a_const (-1) 47)) (bl 47 (a_puti zG0 zT0 zprot 12 8 0 50))))))
set_option maxRecDepth 100000 in
set_option maxHeartbeats 4000000 in
theorem zTo_136 {pre : zPre} {post : zPost} (H : zTieC pre post) {d : Nat × Nat × Nat} (hd : zLe (0, 0, 0) d) : aTr zG0 zT0 zInv (false, false) PZ zbd pre post d prog_14_method_48_code "CapitalCaseModel" zTr_136 := (xB_n (xB_n (xB_n (xB_n (xB_l ⟨_, zs_iconst (v := 0) em129_0 (by decide +kernel), as_const (by decide +kernel)⟩) (xB_n (xB_l ⟨_, zs_istore_n em129_1, as_istore⟩) (xB_l ⟨_, zs_iload_n em129_2, as_iload⟩))) (xB_n (xB_n (xB_l ⟨_, zs_sipush (v := 390) em129_3 (by decide +kernel), as_const (by decide +kernel)⟩) (xB_l ⟨_, zs_icmpge em129_6 (t := 27) (by decide), as_icmp⟩)) (xB_n (xB_l ⟨_, zs_aload_n em129_9, as_aload⟩) (xB_l ⟨_, zs_getf (T := TX12) (M := 70) (ci := 12) (j := 0) em129_10 rfl inX12 (by decide) wd_1332 ((congrFun xo_12 116).trans rfl), as_getf zTie⟩)))) (xB_n (xB_n (xB_l ⟨_, zs_iload_n em129_13, as_iload⟩) (xB_n (xB_l ⟨_, zs_aload_n em129_14, as_aload⟩) (xB_l ⟨_, zs_getf (T := TX12) (M := 70) (ci := 12) (j := 1) em129_15 rfl inX12 (by decide) wd_1331 ((congrFun xo_12 113).trans rfl), as_getf zTie⟩))) (xB_n (xB_n (xB_l ⟨_, zs_iload_n em129_18, as_iload⟩) (xB_l ⟨_, zs_iald em129_19, ag_iald⟩)) (xB_n (xB_l ⟨_, zs_iast zInj0 em129_20, as_iast zTie⟩) (xB_l ⟨_, zs_iinc (k := 1) em129_21 (by decide +kernel), as_iinc (by decide +kernel)⟩))))) (xB_n (xB_n (xB_n (xB_l ⟨_, zs_goto em129_24 (t := 2) (by decide), as_goto⟩) (xB_n (xB_l ⟨_, zs_aload_n em129_27, as_aload⟩) (xB_l ⟨_, zs_aload_n em129_28, as_aload⟩))) (xB_n (xB_n (xB_l ⟨_, zs_getf (T := TX12) (M := 70) (ci := 12) (j := 5) em129_29 rfl inX12 (by decide) wd_1312 ((congrFun xo_12 70).trans rfl), as_getf zTie⟩) (xB_l ⟨_, zs_aload_n em129_32, as_aload⟩)) (xB_n (xB_l ⟨_, zs_getf (T := TX12) (M := 70) (ci := 12) (j := 2) em129_33 rfl inX12 (by decide) wd_1299 ((congrFun xo_12 230).trans rfl), as_getf zTie⟩) (xB_l ⟨_, zs_iald em129_36, ag_iald⟩)))) (xB_n (xB_n (xB_l ⟨_, zs_puti zInj0 (T := TX12) (M := 70) (ty := tyX12) (ci := 12) (j := 6) (kd := 0) em129_37 rfl inX12 tyX12_ok nmX12 (by decide) wd_1333 (Or.inl ⟨rfl, rfl⟩) rfl ((congrFun xo_12 328).trans rfl), ag_puti0⟩) (xB_n (xB_l ⟨_, zs_aload_n em129_40, as_aload⟩) (xB_l ⟨_, zs_iconst (v := 0) em129_41 (by decide +kernel), as_const (by decide +kernel)⟩))) (xB_n (xB_n (xB_l ⟨_, zs_puti zInj0 (T := TX12) (M := 70) (ty := tyX12) (ci := 12) (j := 7) (kd := 1) em129_42 rfl inX12 tyX12_ok nmX12 (by decide) wd_1334 (Or.inr ⟨rfl, rfl⟩) rfl ((congrFun xo_12 331).trans rfl), ag_puti1⟩) (xB_l ⟨_, zs_aload_n em129_45, as_aload⟩)) (xB_n (xB_l ⟨_, zs_iconst (v := (-1)) em129_46 (by decide +kernel), as_const (by decide +kernel)⟩) (xB_l ⟨_, zs_puti zInj0 (T := TX12) (M := 70) (ty := tyX12) (ci := 12) (j := 8) (kd := 0) em129_47 rfl inX12 tyX12_ok nmX12 (by decide) wd_1335 (Or.inl ⟨rfl, rfl⟩) rfl ((congrFun xo_12 334).trans rfl), ag_puti0⟩))))))
set_option maxRecDepth 100000 in
set_option maxHeartbeats 4000000 in
theorem zM_136 : zOKa 136 zc_136 := z_auto (cuts := [(2, ([(0, 0), (0, 1), (0, 390)], [], [some (.inr (.inl (0, 75))), some (.inl (2, 0))], [], [(22, 1, 0)], (0, 0)), [(0, 1)], 390, [0, 0, (-1)])]) (rets := [(50, 3)]) (fuel := 1000) rfl rfl (by decide) (xrt_ok (xR_c (Or.inr (Or.inr (Or.inl ⟨rfl, em129_50, rfl⟩))) (xR_n))) (fun _ _ H _ hd => zTo_136 H hd) (by decide +kernel)
theorem em130_0 : decode prog_14_method_115_code 0 = .ok (.aload_n 0, 1) := by decide +kernel
theorem em130_1 : decode prog_14_method_115_code 1 = .ok (.invokevirtual 411, 3) := by decide +kernel
theorem em130_4 : decode prog_14_method_115_code 4 = .ok (.iload_n 1, 1) := by decide +kernel
theorem em130_5 : decode prog_14_method_115_code 5 = .ok (.tableswitch 304 0 15 #[79, 89, 99, 108, 117, 124, 131, 139, 148, 157, 162, 167, 172, 217, 230, 294], 79) := by decide +kernel
theorem em130_84 : decode prog_14_method_115_code 84 = .ok (.aload_n 0, 1) := by decide +kernel
theorem em130_85 : decode prog_14_method_115_code 85 = .ok (.getfield 43, 3) := by decide +kernel
theorem em130_88 : decode prog_14_method_115_code 88 = .ok (.aload_n 0, 1) := by decide +kernel
theorem em130_89 : decode prog_14_method_115_code 89 = .ok (.getfield 230, 3) := by decide +kernel
theorem em130_92 : decode prog_14_method_115_code 92 = .ok (.iaload, 1) := by decide +kernel
theorem em130_93 : decode prog_14_method_115_code 93 = .ok (.ireturn, 1) := by decide +kernel
theorem em130_94 : decode prog_14_method_115_code 94 = .ok (.aload_n 0, 1) := by decide +kernel
theorem em130_95 : decode prog_14_method_115_code 95 = .ok (.getfield 49, 3) := by decide +kernel
theorem em130_98 : decode prog_14_method_115_code 98 = .ok (.aload_n 0, 1) := by decide +kernel
theorem em130_99 : decode prog_14_method_115_code 99 = .ok (.getfield 230, 3) := by decide +kernel
theorem em130_102 : decode prog_14_method_115_code 102 = .ok (.iaload, 1) := by decide +kernel
theorem em130_103 : decode prog_14_method_115_code 103 = .ok (.ireturn, 1) := by decide +kernel
theorem em130_104 : decode prog_14_method_115_code 104 = .ok (.aload_n 0, 1) := by decide +kernel
theorem em130_105 : decode prog_14_method_115_code 105 = .ok (.getfield 116, 3) := by decide +kernel
theorem em130_108 : decode prog_14_method_115_code 108 = .ok (.sipush 386, 3) := by decide +kernel
theorem em130_111 : decode prog_14_method_115_code 111 = .ok (.iaload, 1) := by decide +kernel
theorem em130_112 : decode prog_14_method_115_code 112 = .ok (.ireturn, 1) := by decide +kernel
theorem em130_113 : decode prog_14_method_115_code 113 = .ok (.aload_n 0, 1) := by decide +kernel
theorem em130_114 : decode prog_14_method_115_code 114 = .ok (.getfield 116, 3) := by decide +kernel
theorem em130_117 : decode prog_14_method_115_code 117 = .ok (.sipush 387, 3) := by decide +kernel
theorem em130_120 : decode prog_14_method_115_code 120 = .ok (.iaload, 1) := by decide +kernel
theorem em130_121 : decode prog_14_method_115_code 121 = .ok (.ireturn, 1) := by decide +kernel
theorem em130_122 : decode prog_14_method_115_code 122 = .ok (.aload_n 0, 1) := by decide +kernel
theorem em130_123 : decode prog_14_method_115_code 123 = .ok (.iconst 1, 1) := by decide +kernel
theorem em130_124 : decode prog_14_method_115_code 124 = .ok (.iconst 2, 1) := by decide +kernel
theorem em130_125 : decode prog_14_method_115_code 125 = .ok (.invokevirtual 473, 3) := by decide +kernel
theorem em130_128 : decode prog_14_method_115_code 128 = .ok (.ireturn, 1) := by decide +kernel
theorem em130_129 : decode prog_14_method_115_code 129 = .ok (.aload_n 0, 1) := by decide +kernel
theorem em130_130 : decode prog_14_method_115_code 130 = .ok (.iconst 2, 1) := by decide +kernel
theorem em130_131 : decode prog_14_method_115_code 131 = .ok (.iconst 3, 1) := by decide +kernel
theorem em130_132 : decode prog_14_method_115_code 132 = .ok (.invokevirtual 473, 3) := by decide +kernel
theorem em130_135 : decode prog_14_method_115_code 135 = .ok (.ireturn, 1) := by decide +kernel
theorem em130_136 : decode prog_14_method_115_code 136 = .ok (.aload_n 0, 1) := by decide +kernel
theorem em130_137 : decode prog_14_method_115_code 137 = .ok (.iconst 0, 1) := by decide +kernel
theorem em130_138 : decode prog_14_method_115_code 138 = .ok (.bipush 40, 2) := by decide +kernel
theorem em130_140 : decode prog_14_method_115_code 140 = .ok (.invokevirtual 476, 3) := by decide +kernel
theorem em130_143 : decode prog_14_method_115_code 143 = .ok (.ireturn, 1) := by decide +kernel
theorem em130_144 : decode prog_14_method_115_code 144 = .ok (.aload_n 0, 1) := by decide +kernel
theorem em130_145 : decode prog_14_method_115_code 145 = .ok (.bipush 40, 2) := by decide +kernel
theorem em130_147 : decode prog_14_method_115_code 147 = .ok (.bipush 40, 2) := by decide +kernel
theorem em130_149 : decode prog_14_method_115_code 149 = .ok (.invokevirtual 476, 3) := by decide +kernel
theorem em130_152 : decode prog_14_method_115_code 152 = .ok (.ireturn, 1) := by decide +kernel
theorem em130_153 : decode prog_14_method_115_code 153 = .ok (.aload_n 0, 1) := by decide +kernel
theorem em130_154 : decode prog_14_method_115_code 154 = .ok (.getfield 116, 3) := by decide +kernel
theorem em130_157 : decode prog_14_method_115_code 157 = .ok (.sipush 388, 3) := by decide +kernel
theorem em130_160 : decode prog_14_method_115_code 160 = .ok (.iaload, 1) := by decide +kernel
theorem em130_161 : decode prog_14_method_115_code 161 = .ok (.ireturn, 1) := by decide +kernel
theorem em130_162 : decode prog_14_method_115_code 162 = .ok (.aload_n 0, 1) := by decide +kernel
theorem em130_163 : decode prog_14_method_115_code 163 = .ok (.getfield 163, 3) := by decide +kernel
theorem em130_166 : decode prog_14_method_115_code 166 = .ok (.ireturn, 1) := by decide +kernel
theorem em130_167 : decode prog_14_method_115_code 167 = .ok (.aload_n 0, 1) := by decide +kernel
theorem em130_168 : decode prog_14_method_115_code 168 = .ok (.getfield 248, 3) := by decide +kernel
theorem em130_171 : decode prog_14_method_115_code 171 = .ok (.ireturn, 1) := by decide +kernel
theorem em130_172 : decode prog_14_method_115_code 172 = .ok (.aload_n 0, 1) := by decide +kernel
theorem em130_173 : decode prog_14_method_115_code 173 = .ok (.getfield 251, 3) := by decide +kernel
theorem em130_176 : decode prog_14_method_115_code 176 = .ok (.ireturn, 1) := by decide +kernel
theorem em130_177 : decode prog_14_method_115_code 177 = .ok (.aload_n 0, 1) := by decide +kernel
theorem em130_178 : decode prog_14_method_115_code 178 = .ok (.getfield 143, 3) := by decide +kernel
theorem em130_181 : decode prog_14_method_115_code 181 = .ok (.iconst 0, 1) := by decide +kernel
theorem em130_182 : decode prog_14_method_115_code 182 = .ok (.baload, 1) := by decide +kernel
theorem em130_183 : decode prog_14_method_115_code 183 = .ok (.ifCond .eq 7, 3) := by decide +kernel
theorem em130_186 : decode prog_14_method_115_code 186 = .ok (.iconst 1, 1) := by decide +kernel
theorem em130_187 : decode prog_14_method_115_code 187 = .ok (.goto 4, 3) := by decide +kernel
theorem em130_190 : decode prog_14_method_115_code 190 = .ok (.iconst 0, 1) := by decide +kernel
theorem em130_191 : decode prog_14_method_115_code 191 = .ok (.aload_n 0, 1) := by decide +kernel
theorem em130_192 : decode prog_14_method_115_code 192 = .ok (.getfield 143, 3) := by decide +kernel
theorem em130_195 : decode prog_14_method_115_code 195 = .ok (.iconst 1, 1) := by decide +kernel
theorem em130_196 : decode prog_14_method_115_code 196 = .ok (.baload, 1) := by decide +kernel
theorem em130_197 : decode prog_14_method_115_code 197 = .ok (.ifCond .eq 7, 3) := by decide +kernel
theorem em130_200 : decode prog_14_method_115_code 200 = .ok (.iconst 1, 1) := by decide +kernel
theorem em130_201 : decode prog_14_method_115_code 201 = .ok (.goto 4, 3) := by decide +kernel
theorem em130_204 : decode prog_14_method_115_code 204 = .ok (.iconst 0, 1) := by decide +kernel
theorem em130_205 : decode prog_14_method_115_code 205 = .ok (.iadd, 1) := by decide +kernel
theorem em130_206 : decode prog_14_method_115_code 206 = .ok (.aload_n 0, 1) := by decide +kernel
theorem em130_207 : decode prog_14_method_115_code 207 = .ok (.getfield 143, 3) := by decide +kernel
theorem em130_210 : decode prog_14_method_115_code 210 = .ok (.iconst 2, 1) := by decide +kernel
theorem em130_211 : decode prog_14_method_115_code 211 = .ok (.baload, 1) := by decide +kernel
theorem em130_212 : decode prog_14_method_115_code 212 = .ok (.ifCond .eq 7, 3) := by decide +kernel
theorem em130_215 : decode prog_14_method_115_code 215 = .ok (.iconst 1, 1) := by decide +kernel
theorem em130_216 : decode prog_14_method_115_code 216 = .ok (.goto 4, 3) := by decide +kernel
theorem em130_219 : decode prog_14_method_115_code 219 = .ok (.iconst 0, 1) := by decide +kernel
theorem em130_220 : decode prog_14_method_115_code 220 = .ok (.iadd, 1) := by decide +kernel
theorem em130_221 : decode prog_14_method_115_code 221 = .ok (.ireturn, 1) := by decide +kernel
theorem em130_222 : decode prog_14_method_115_code 222 = .ok (.aload_n 0, 1) := by decide +kernel
theorem em130_223 : decode prog_14_method_115_code 223 = .ok (.invokevirtual 395, 3) := by decide +kernel
theorem em130_226 : decode prog_14_method_115_code 226 = .ok (.ifCond .eq 7, 3) := by decide +kernel
theorem em130_229 : decode prog_14_method_115_code 229 = .ok (.iconst 1, 1) := by decide +kernel
theorem em130_230 : decode prog_14_method_115_code 230 = .ok (.goto 4, 3) := by decide +kernel
theorem em130_233 : decode prog_14_method_115_code 233 = .ok (.iconst 0, 1) := by decide +kernel
theorem em130_234 : decode prog_14_method_115_code 234 = .ok (.ireturn, 1) := by decide +kernel
theorem em130_235 : decode prog_14_method_115_code 235 = .ok (.iconst 0, 1) := by decide +kernel
theorem em130_236 : decode prog_14_method_115_code 236 = .ok (.istore_n 2, 1) := by decide +kernel
theorem em130_237 : decode prog_14_method_115_code 237 = .ok (.aload_n 0, 1) := by decide +kernel
theorem em130_238 : decode prog_14_method_115_code 238 = .ok (.invokevirtual 436, 3) := by decide +kernel
theorem em130_241 : decode prog_14_method_115_code 241 = .ok (.istore_n 3, 1) := by decide +kernel
theorem em130_242 : decode prog_14_method_115_code 242 = .ok (.aload_n 0, 1) := by decide +kernel
theorem em130_243 : decode prog_14_method_115_code 243 = .ok (.invokevirtual 439, 3) := by decide +kernel
theorem em130_246 : decode prog_14_method_115_code 246 = .ok (.iconst 0, 1) := by decide +kernel
theorem em130_247 : decode prog_14_method_115_code 247 = .ok (.istore 4, 2) := by decide +kernel
theorem em130_249 : decode prog_14_method_115_code 249 = .ok (.iload 4, 2) := by decide +kernel
theorem em130_251 : decode prog_14_method_115_code 251 = .ok (.aload_n 0, 1) := by decide +kernel
theorem em130_252 : decode prog_14_method_115_code 252 = .ok (.getfield 49, 3) := by decide +kernel
theorem em130_255 : decode prog_14_method_115_code 255 = .ok (.aload_n 0, 1) := by decide +kernel
theorem em130_256 : decode prog_14_method_115_code 256 = .ok (.getfield 230, 3) := by decide +kernel
theorem em130_259 : decode prog_14_method_115_code 259 = .ok (.iaload, 1) := by decide +kernel
theorem em130_260 : decode prog_14_method_115_code 260 = .ok (.if_icmp .ge 37, 3) := by decide +kernel
theorem em130_263 : decode prog_14_method_115_code 263 = .ok (.iload_n 3, 1) := by decide +kernel
theorem em130_264 : decode prog_14_method_115_code 264 = .ok (.iload 4, 2) := by decide +kernel
theorem em130_266 : decode prog_14_method_115_code 266 = .ok (.ishr, 1) := by decide +kernel
theorem em130_267 : decode prog_14_method_115_code 267 = .ok (.iconst 1, 1) := by decide +kernel
theorem em130_268 : decode prog_14_method_115_code 268 = .ok (.iand, 1) := by decide +kernel
theorem em130_269 : decode prog_14_method_115_code 269 = .ok (.iconst 1, 1) := by decide +kernel
theorem em130_270 : decode prog_14_method_115_code 270 = .ok (.if_icmp .ne 21, 3) := by decide +kernel
theorem em130_273 : decode prog_14_method_115_code 273 = .ok (.aload_n 0, 1) := by decide +kernel
theorem em130_274 : decode prog_14_method_115_code 274 = .ok (.iconst 1, 1) := by decide +kernel
theorem em130_275 : decode prog_14_method_115_code 275 = .ok (.iload 4, 2) := by decide +kernel
theorem em130_277 : decode prog_14_method_115_code 277 = .ok (.ishl, 1) := by decide +kernel
theorem em130_278 : decode prog_14_method_115_code 278 = .ok (.invokevirtual 448, 3) := by decide +kernel
theorem em130_281 : decode prog_14_method_115_code 281 = .ok (.ifCond .eq 10, 3) := by decide +kernel
theorem em130_284 : decode prog_14_method_115_code 284 = .ok (.iload_n 2, 1) := by decide +kernel
theorem em130_285 : decode prog_14_method_115_code 285 = .ok (.iconst 1, 1) := by decide +kernel
theorem em130_286 : decode prog_14_method_115_code 286 = .ok (.iload 4, 2) := by decide +kernel
theorem em130_288 : decode prog_14_method_115_code 288 = .ok (.ishl, 1) := by decide +kernel
theorem em130_289 : decode prog_14_method_115_code 289 = .ok (.ior, 1) := by decide +kernel
theorem em130_290 : decode prog_14_method_115_code 290 = .ok (.istore_n 2, 1) := by decide +kernel
theorem em130_291 : decode prog_14_method_115_code 291 = .ok (.iinc 4 1, 3) := by decide +kernel
theorem em130_294 : decode prog_14_method_115_code 294 = .ok (.goto (-45), 3) := by decide +kernel
theorem em130_297 : decode prog_14_method_115_code 297 = .ok (.iload_n 2, 1) := by decide +kernel
theorem em130_298 : decode prog_14_method_115_code 298 = .ok (.ireturn, 1) := by decide +kernel
theorem em130_299 : decode prog_14_method_115_code 299 = .ok (.aload_n 0, 1) := by decide +kernel
theorem em130_300 : decode prog_14_method_115_code 300 = .ok (.bipush 120, 2) := by decide +kernel
theorem em130_302 : decode prog_14_method_115_code 302 = .ok (.sipush 200, 3) := by decide +kernel
theorem em130_305 : decode prog_14_method_115_code 305 = .ok (.invokevirtual 476, 3) := by decide +kernel
theorem em130_308 : decode prog_14_method_115_code 308 = .ok (.ireturn, 1) := by decide +kernel
theorem em130_309 : decode prog_14_method_115_code 309 = .ok (.iconst (-1), 1) := by decide +kernel
theorem em130_310 : decode prog_14_method_115_code 310 = .ok (.ireturn, 1) := by decide +kernel
/-! CapitalCaseModel.count:(I)I -/
noncomputable def zTr_137 : Nat → Option aF := bn 200 (bn 136 (bn 105 (bn 89 (bn 5 (bn 1 (bl 0 (a_aload 0 1)) (bn 4 (bl 1 (a_invV zG0 zprot (true, false) zc_136 (zbd 136) (10, 0, 0) 12 1 4)) (bl 4 (a_iload 1 5)))) (bn 85 (bn 84 (bl 5 (a_tsw 0 [84, 94, 104, 113, 122, 129, 136, 144, 153, 162, 167, 172, 177, 222, 235, 299] 309)) (bl 84 (a_aload 0 85))) (bn 88 (bl 85 (a_getf zG0 zT0 12 3 88)) (bl 88 (a_aload 0 89))))) (bn 98 (bn 94 (bn 92 (bl 89 (a_getf zG0 zT0 12 2 92)) (bl 92 (a_ald zG0 zT0 (true, false) ts0 93))) (bn 95 (bl 94 (a_aload 0 95)) (bl 95 (a_getf zG0 zT0 12 4 98)))) (bn 102 (bn 99 (bl 98 (a_aload 0 99)) (bl 99 (a_getf zG0 zT0 12 2 102))) (bn 104 (bl 102 (a_ald zG0 zT0 (true, false) ts0 103)) (bl 104 (a_aload 0 105)))))) (bn 122 (bn 113 (bn 108 (bl 105 (a_getf zG0 zT0 12 0 108)) (bn 111 (bl 108 (a_const 386 111)) (bl 111 (a_ald zG0 zT0 (true, false) ts0 112)))) (bn 117 (bn 114 (bl 113 (a_aload 0 114)) (bl 114 (a_getf zG0 zT0 12 0 117))) (bn 120 (bl 117 (a_const 387 120)) (bl 120 (a_ald zG0 zT0 (true, false) ts0 121))))) (bn 129 (bn 124 (bn 123 (bl 122 (a_aload 0 123)) (bl 123 (a_const 1 124))) (bn 125 (bl 124 (a_const 2 125)) (bl 125 (a_invV zG0 zprot (true, false) zc_223 (zbd 223) (10, 0, 0) 12 3 128)))) (bn 131 (bn 130 (bl 129 (a_aload 0 130)) (bl 130 (a_const 2 131))) (bn 132 (bl 131 (a_const 3 132)) (bl 132 (a_invV zG0 zprot (true, false) zc_223 (zbd 223) (10, 0, 0) 12 3 135))))))) (bn 168 (bn 149 (bn 140 (bn 137 (bl 136 (a_aload 0 137)) (bn 138 (bl 137 (a_const 0 138)) (bl 138 (a_const 40 140)))) (bn 145 (bn 144 (bl 140 (a_invV zG0 zprot (true, false) zc_214 (zbd 214) (10, 0, 0) 12 3 143)) (bl 144 (a_aload 0 145))) (bn 147 (bl 145 (a_const 40 147)) (bl 147 (a_const 40 149))))) (bn 160 (bn 154 (bn 153 (bl 149 (a_invV zG0 zprot (true, false) zc_214 (zbd 214) (10, 0, 0) 12 3 152)) (bl 153 (a_aload 0 154))) (bn 157 (bl 154 (a_getf zG0 zT0 12 0 157)) (bl 157 (a_const 388 160)))) (bn 163 (bn 162 (bl 160 (a_ald zG0 zT0 (true, false) ts0 161)) (bl 162 (a_aload 0 163))) (bn 167 (bl 163 (a_getf zG0 zT0 12 12 166)) (bl 167 (a_aload 0 168)))))) (bn 186 (bn 178 (bn 173 (bn 172 (bl 168 (a_getf zG0 zT0 12 10 171)) (bl 172 (a_aload 0 173))) (bn 177 (bl 173 (a_getf zG0 zT0 12 64 176)) (bl 177 (a_aload 0 178)))) (bn 182 (bn 181 (bl 178 (a_getf zG0 zT0 12 68 181)) (bl 181 (a_const 0 182))) (bn 183 (bl 182 (a_ald zG0 zT0 (true, false) ts12 183)) (bl 183 (a_if 0 190 186))))) (bn 192 (bn 190 (bn 187 (bl 186 (a_const 1 187)) (bl 187 (a_goto 191))) (bn 191 (bl 190 (a_const 0 191)) (bl 191 (a_aload 0 192)))) (bn 196 (bn 195 (bl 192 (a_getf zG0 zT0 12 68 195)) (bl 195 (a_const 1 196))) (bn 197 (bl 196 (a_ald zG0 zT0 (true, false) ts12 197)) (bl 197 (a_if 0 204 200)))))))) (bn 255 (bn 226 (bn 211 (bn 205 (bn 201 (bl 200 (a_const 1 201)) (bn 204 (bl 201 (a_goto 205)) (bl 204 (a_const 0 205)))) (bn 207 (bn 206 (bl 205 (a_bin fadd 206)) (bl 206 (a_aload 0 207))) (bn 210 (bl 207 (a_getf zG0 zT0 12 68 210)) (bl 210 (a_const 2 211))))) (bn 219 (bn 215 (bn 212 (bl 211 (a_ald zG0 zT0 (true, false) ts12 212)) (bl 212 (a_if 0 219 215))) (bn 216 (bl 215 (a_const 1 216)) (bl 216 (a_goto 220)))) (bn 222 (bn 220 (bl 219 (a_const 0 220)) (bl 220 (a_bin fadd 221))) (bn 223 (bl 222 (a_aload 0 223)) (bl 223 (a_invV zG0 zprot (true, false) zc_123 (zbd 123) (10, 0, 0) 12 1 226)))))) (bn 241 (bn 235 (bn 230 (bn 229 (bl 226 (a_if 0 233 229)) (bl 229 (a_const 1 230))) (bn 233 (bl 230 (a_goto 234)) (bl 233 (a_const 0 234)))) (bn 237 (bn 236 (bl 235 (a_const 0 236)) (bl 236 (a_istore 2 237))) (bn 238 (bl 237 (a_aload 0 238)) (bl 238 (a_invV zG0 zprot (true, false) zc_199 (zbd 199) (10, 0, 0) 12 1 241))))) (bn 247 (bn 243 (bn 242 (bl 241 (a_istore 3 242)) (bl 242 (a_aload 0 243))) (bn 246 (bl 243 (a_invV zG0 zprot (true, false) zc_182 (zbd 182) (10, 0, 0) 12 1 246)) (bl 246 (a_const 0 247)))) (bn 251 (bn 249 (bl 247 (a_istore 4 249)) (bl 249 (a_iload 4 251))) (bn 252 (bl 251 (a_aload 0 252)) (bl 252 (a_getf zG0 zT0 12 4 255))))))) (bn 278 (bn 267 (bn 260 (bn 256 (bl 255 (a_aload 0 256)) (bn 259 (bl 256 (a_getf zG0 zT0 12 2 259)) (bl 259 (a_ald zG0 zT0 (true, false) ts0 260)))) (bn 264 (bn 263 (bl 260 (a_icmp 3 297 263)) (bl 263 (a_iload 3 264))) (bn 266 (bl 264 (a_iload 4 266)) (bl 266 (a_bin fany 267))))) (bn 273 (bn 269 (bn 268 (bl 267 (a_const 1 268)) (bl 268 (a_bin fand 269))) (bn 270 (bl 269 (a_const 1 270)) (bl 270 (a_icmp 1 291 273)))) (bn 275 (bn 274 (bl 273 (a_aload 0 274)) (bl 274 (a_const 1 275))) (bn 277 (bl 275 (a_iload 4 277)) (bl 277 (a_bin fshl 278)))))) (bn 291 (bn 286 (bn 284 (bn 281 (bl 278 (a_invV zG0 zprot (true, false) zc_132 (zbd 132) (10, 0, 0) 12 2 281)) (bl 281 (a_if 0 291 284))) (bn 285 (bl 284 (a_iload 2 285)) (bl 285 (a_const 1 286)))) (bn 289 (bn 288 (bl 286 (a_iload 4 288)) (bl 288 (a_bin fshl 289))) (bn 290 (bl 289 (a_bin fany 290)) (bl 290 (a_istore 2 291))))) (bn 300 (bn 297 (bn 294 (bl 291 (a_iinc 4 1 294)) (bl 294 (a_goto 249))) (bn 299 (bl 297 (a_iload 2 298)) (bl 299 (a_aload 0 300)))) (bn 305 (bn 302 (bl 300 (a_const 120 302)) (bl 302 (a_const 200 305))) (bn 309 (bl 305 (a_invV zG0 zprot (true, false) zc_214 (zbd 214) (10, 0, 0) 12 3 308)) (bl 309 (a_const (-1) 310))))))))
set_option maxRecDepth 100000 in
set_option maxHeartbeats 4000000 in
theorem zTo_137 {pre : zPre} {post : zPost} (H : zTieC pre post) {d : Nat × Nat × Nat} (hd : zLe (10, 0, 0) d) : aTr zG0 zT0 zInv (true, false) PZ zbd pre post d prog_14_method_115_code "CapitalCaseModel" zTr_137 := (xB_n (xB_n (xB_n (xB_n (xB_n (xB_n (xB_l ⟨_, zs_aload_n em130_0, as_aload⟩) (xB_n (xB_l ⟨_, zs_invV (T := TX12) em130_1 zl_136 rfl wd_1635 wd_1637 wd_73 ((congrFun xo_12 411).trans rfl) xm_129, ag_invV H zh_136 hd (by decide)⟩) (xB_l ⟨_, zs_iload_n em130_4, as_iload⟩))) (xB_n (xB_n (xB_l ⟨_, zs_tsw (ts := [84, 94, 104, 113, 122, 129, 136, 144, 153, 162, 167, 172, 177, 222, 235, 299]) (df := 309) em130_5 (by decide +kernel) (by decide +kernel) (ztsw (by decide +kernel) (by decide +kernel)), as_tsw⟩) (xB_l ⟨_, zs_aload_n em130_84, as_aload⟩)) (xB_n (xB_l ⟨_, zs_getf (T := TX12) (M := 70) (ci := 12) (j := 3) em130_85 rfl inX12 (by decide) wd_1303 ((congrFun xo_12 43).trans rfl), as_getf zTie⟩) (xB_l ⟨_, zs_aload_n em130_88, as_aload⟩)))) (xB_n (xB_n (xB_n (xB_l ⟨_, zs_getf (T := TX12) (M := 70) (ci := 12) (j := 2) em130_89 rfl inX12 (by decide) wd_1299 ((congrFun xo_12 230).trans rfl), as_getf zTie⟩) (xB_l ⟨_, zs_iald em130_92, ag_iald⟩)) (xB_n (xB_l ⟨_, zs_aload_n em130_94, as_aload⟩) (xB_l ⟨_, zs_getf (T := TX12) (M := 70) (ci := 12) (j := 4) em130_95 rfl inX12 (by decide) wd_1305 ((congrFun xo_12 49).trans rfl), as_getf zTie⟩))) (xB_n (xB_n (xB_l ⟨_, zs_aload_n em130_98, as_aload⟩) (xB_l ⟨_, zs_getf (T := TX12) (M := 70) (ci := 12) (j := 2) em130_99 rfl inX12 (by decide) wd_1299 ((congrFun xo_12 230).trans rfl), as_getf zTie⟩)) (xB_n (xB_l ⟨_, zs_iald em130_102, ag_iald⟩) (xB_l ⟨_, zs_aload_n em130_104, as_aload⟩))))) (xB_n (xB_n (xB_n (xB_l ⟨_, zs_getf (T := TX12) (M := 70) (ci := 12) (j := 0) em130_105 rfl inX12 (by decide) wd_1332 ((congrFun xo_12 116).trans rfl), as_getf zTie⟩) (xB_n (xB_l ⟨_, zs_sipush (v := 386) em130_108 (by decide +kernel), as_const (by decide +kernel)⟩) (xB_l ⟨_, zs_iald em130_111, ag_iald⟩))) (xB_n (xB_n (xB_l ⟨_, zs_aload_n em130_113, as_aload⟩) (xB_l ⟨_, zs_getf (T := TX12) (M := 70) (ci := 12) (j := 0) em130_114 rfl inX12 (by decide) wd_1332 ((congrFun xo_12 116).trans rfl), as_getf zTie⟩)) (xB_n (xB_l ⟨_, zs_sipush (v := 387) em130_117 (by decide +kernel), as_const (by decide +kernel)⟩) (xB_l ⟨_, zs_iald em130_120, ag_iald⟩)))) (xB_n (xB_n (xB_n (xB_l ⟨_, zs_aload_n em130_122, as_aload⟩) (xB_l ⟨_, zs_iconst (v := 1) em130_123 (by decide +kernel), as_const (by decide +kernel)⟩)) (xB_n (xB_l ⟨_, zs_iconst (v := 2) em130_124 (by decide +kernel), as_const (by decide +kernel)⟩) (xB_l ⟨_, zs_invV (T := TX12) em130_125 zl_223 rfl wd_1909 wd_1911 wd_108 ((congrFun xo_12 473).trans rfl) xm_196, ag_invV H zh_223 hd (by decide)⟩))) (xB_n (xB_n (xB_l ⟨_, zs_aload_n em130_129, as_aload⟩) (xB_l ⟨_, zs_iconst (v := 2) em130_130 (by decide +kernel), as_const (by decide +kernel)⟩)) (xB_n (xB_l ⟨_, zs_iconst (v := 3) em130_131 (by decide +kernel), as_const (by decide +kernel)⟩) (xB_l ⟨_, zs_invV (T := TX12) em130_132 zl_223 rfl wd_1909 wd_1911 wd_108 ((congrFun xo_12 473).trans rfl) xm_196, ag_invV H zh_223 hd (by decide)⟩)))))) (xB_n (xB_n (xB_n (xB_n (xB_l ⟨_, zs_aload_n em130_136, as_aload⟩) (xB_n (xB_l ⟨_, zs_iconst (v := 0) em130_137 (by decide +kernel), as_const (by decide +kernel)⟩) (xB_l ⟨_, zs_bipush (v := 40) em130_138 (by decide +kernel), as_const (by decide +kernel)⟩))) (xB_n (xB_n (xB_l ⟨_, zs_invV (T := TX12) em130_140 zl_214 rfl wd_1913 wd_1915 wd_109 ((congrFun xo_12 476).trans rfl) xm_187, ag_invV H zh_214 hd (by decide)⟩) (xB_l ⟨_, zs_aload_n em130_144, as_aload⟩)) (xB_n (xB_l ⟨_, zs_bipush (v := 40) em130_145 (by decide +kernel), as_const (by decide +kernel)⟩) (xB_l ⟨_, zs_bipush (v := 40) em130_147 (by decide +kernel), as_const (by decide +kernel)⟩)))) (xB_n (xB_n (xB_n (xB_l ⟨_, zs_invV (T := TX12) em130_149 zl_214 rfl wd_1913 wd_1915 wd_109 ((congrFun xo_12 476).trans rfl) xm_187, ag_invV H zh_214 hd (by decide)⟩) (xB_l ⟨_, zs_aload_n em130_153, as_aload⟩)) (xB_n (xB_l ⟨_, zs_getf (T := TX12) (M := 70) (ci := 12) (j := 0) em130_154 rfl inX12 (by decide) wd_1332 ((congrFun xo_12 116).trans rfl), as_getf zTie⟩) (xB_l ⟨_, zs_sipush (v := 388) em130_157 (by decide +kernel), as_const (by decide +kernel)⟩))) (xB_n (xB_n (xB_l ⟨_, zs_iald em130_160, ag_iald⟩) (xB_l ⟨_, zs_aload_n em130_162, as_aload⟩)) (xB_n (xB_l ⟨_, zs_getf (T := TX12) (M := 70) (ci := 12) (j := 12) em130_163 rfl inX12 (by decide) wd_1283 ((congrFun xo_12 163).trans rfl), as_getf zTie⟩) (xB_l ⟨_, zs_aload_n em130_167, as_aload⟩))))) (xB_n (xB_n (xB_n (xB_n (xB_l ⟨_, zs_getf (T := TX12) (M := 70) (ci := 12) (j := 10) em130_168 rfl inX12 (by decide) wd_1340 ((congrFun xo_12 248).trans rfl), as_getf zTie⟩) (xB_l ⟨_, zs_aload_n em130_172, as_aload⟩)) (xB_n (xB_l ⟨_, zs_getf (T := TX12) (M := 70) (ci := 12) (j := 64) em130_173 rfl inX12 (by decide) wd_1345 ((congrFun xo_12 251).trans rfl), as_getf zTie⟩) (xB_l ⟨_, zs_aload_n em130_177, as_aload⟩))) (xB_n (xB_n (xB_l ⟨_, zs_getf (T := TX12) (M := 70) (ci := 12) (j := 68) em130_178 rfl inX12 (by decide) wd_1349 ((congrFun xo_12 143).trans rfl), as_getf zTie⟩) (xB_l ⟨_, zs_iconst (v := 0) em130_181 (by decide +kernel), as_const (by decide +kernel)⟩)) (xB_n (xB_l ⟨_, zs_bald em130_182, ag_bald⟩) (xB_l ⟨_, zs_ifeq em130_183 (t := 190) (by decide), as_if⟩)))) (xB_n (xB_n (xB_n (xB_l ⟨_, zs_iconst (v := 1) em130_186 (by decide +kernel), as_const (by decide +kernel)⟩) (xB_l ⟨_, zs_goto em130_187 (t := 191) (by decide), as_goto⟩)) (xB_n (xB_l ⟨_, zs_iconst (v := 0) em130_190 (by decide +kernel), as_const (by decide +kernel)⟩) (xB_l ⟨_, zs_aload_n em130_191, as_aload⟩))) (xB_n (xB_n (xB_l ⟨_, zs_getf (T := TX12) (M := 70) (ci := 12) (j := 68) em130_192 rfl inX12 (by decide) wd_1349 ((congrFun xo_12 143).trans rfl), as_getf zTie⟩) (xB_l ⟨_, zs_iconst (v := 1) em130_195 (by decide +kernel), as_const (by decide +kernel)⟩)) (xB_n (xB_l ⟨_, zs_bald em130_196, ag_bald⟩) (xB_l ⟨_, zs_ifeq em130_197 (t := 204) (by decide), as_if⟩))))))) (xB_n (xB_n (xB_n (xB_n (xB_n (xB_l ⟨_, zs_iconst (v := 1) em130_200 (by decide +kernel), as_const (by decide +kernel)⟩) (xB_n (xB_l ⟨_, zs_goto em130_201 (t := 205) (by decide), as_goto⟩) (xB_l ⟨_, zs_iconst (v := 0) em130_204 (by decide +kernel), as_const (by decide +kernel)⟩))) (xB_n (xB_n (xB_l ⟨_, zs_iadd em130_205, as_bin fadd_ok⟩) (xB_l ⟨_, zs_aload_n em130_206, as_aload⟩)) (xB_n (xB_l ⟨_, zs_getf (T := TX12) (M := 70) (ci := 12) (j := 68) em130_207 rfl inX12 (by decide) wd_1349 ((congrFun xo_12 143).trans rfl), as_getf zTie⟩) (xB_l ⟨_, zs_iconst (v := 2) em130_210 (by decide +kernel), as_const (by decide +kernel)⟩)))) (xB_n (xB_n (xB_n (xB_l ⟨_, zs_bald em130_211, ag_bald⟩) (xB_l ⟨_, zs_ifeq em130_212 (t := 219) (by decide), as_if⟩)) (xB_n (xB_l ⟨_, zs_iconst (v := 1) em130_215 (by decide +kernel), as_const (by decide +kernel)⟩) (xB_l ⟨_, zs_goto em130_216 (t := 220) (by decide), as_goto⟩))) (xB_n (xB_n (xB_l ⟨_, zs_iconst (v := 0) em130_219 (by decide +kernel), as_const (by decide +kernel)⟩) (xB_l ⟨_, zs_iadd em130_220, as_bin fadd_ok⟩)) (xB_n (xB_l ⟨_, zs_aload_n em130_222, as_aload⟩) (xB_l ⟨_, zs_invV (T := TX12) em130_223 zl_123 rfl wd_1766 wd_1768 wd_96 ((congrFun xo_12 395).trans rfl) xm_116, ag_invV H zh_123 hd (by decide)⟩))))) (xB_n (xB_n (xB_n (xB_n (xB_l ⟨_, zs_ifeq em130_226 (t := 233) (by decide), as_if⟩) (xB_l ⟨_, zs_iconst (v := 1) em130_229 (by decide +kernel), as_const (by decide +kernel)⟩)) (xB_n (xB_l ⟨_, zs_goto em130_230 (t := 234) (by decide), as_goto⟩) (xB_l ⟨_, zs_iconst (v := 0) em130_233 (by decide +kernel), as_const (by decide +kernel)⟩))) (xB_n (xB_n (xB_l ⟨_, zs_iconst (v := 0) em130_235 (by decide +kernel), as_const (by decide +kernel)⟩) (xB_l ⟨_, zs_istore_n em130_236, as_istore⟩)) (xB_n (xB_l ⟨_, zs_aload_n em130_237, as_aload⟩) (xB_l ⟨_, zs_invV (T := TX12) em130_238 zl_199 rfl wd_1798 wd_1800 wd_100 ((congrFun xo_12 436).trans rfl) xm_172, ag_invV H zh_199 hd (by decide)⟩)))) (xB_n (xB_n (xB_n (xB_l ⟨_, zs_istore_n em130_241, as_istore⟩) (xB_l ⟨_, zs_aload_n em130_242, as_aload⟩)) (xB_n (xB_l ⟨_, zs_invV (T := TX12) em130_243 zl_182 rfl wd_1802 wd_1804 wd_101 ((congrFun xo_12 439).trans rfl) xm_156, ag_invV H zh_182 hd (by decide)⟩) (xB_l ⟨_, zs_iconst (v := 0) em130_246 (by decide +kernel), as_const (by decide +kernel)⟩))) (xB_n (xB_n (xB_l ⟨_, zs_istore em130_247, as_istore⟩) (xB_l ⟨_, zs_iload em130_249, as_iload⟩)) (xB_n (xB_l ⟨_, zs_aload_n em130_251, as_aload⟩) (xB_l ⟨_, zs_getf (T := TX12) (M := 70) (ci := 12) (j := 4) em130_252 rfl inX12 (by decide) wd_1305 ((congrFun xo_12 49).trans rfl), as_getf zTie⟩)))))) (xB_n (xB_n (xB_n (xB_n (xB_l ⟨_, zs_aload_n em130_255, as_aload⟩) (xB_n (xB_l ⟨_, zs_getf (T := TX12) (M := 70) (ci := 12) (j := 2) em130_256 rfl inX12 (by decide) wd_1299 ((congrFun xo_12 230).trans rfl), as_getf zTie⟩) (xB_l ⟨_, zs_iald em130_259, ag_iald⟩))) (xB_n (xB_n (xB_l ⟨_, zs_icmpge em130_260 (t := 297) (by decide), as_icmp⟩) (xB_l ⟨_, zs_iload_n em130_263, as_iload⟩)) (xB_n (xB_l ⟨_, zs_iload em130_264, as_iload⟩) (xB_l ⟨_, zs_ishr em130_266, as_bin fany_ok⟩)))) (xB_n (xB_n (xB_n (xB_l ⟨_, zs_iconst (v := 1) em130_267 (by decide +kernel), as_const (by decide +kernel)⟩) (xB_l ⟨_, zs_iand em130_268, as_bin fand_ok⟩)) (xB_n (xB_l ⟨_, zs_iconst (v := 1) em130_269 (by decide +kernel), as_const (by decide +kernel)⟩) (xB_l ⟨_, zs_icmpne em130_270 (t := 291) (by decide), as_icmp⟩))) (xB_n (xB_n (xB_l ⟨_, zs_aload_n em130_273, as_aload⟩) (xB_l ⟨_, zs_iconst (v := 1) em130_274 (by decide +kernel), as_const (by decide +kernel)⟩)) (xB_n (xB_l ⟨_, zs_iload em130_275, as_iload⟩) (xB_l ⟨_, zs_ishl em130_277, as_bin fshl_ok⟩))))) (xB_n (xB_n (xB_n (xB_n (xB_l ⟨_, zs_invV (T := TX12) em130_278 zl_132 rfl wd_1806 wd_1808 wd_102 ((congrFun xo_12 448).trans rfl) xm_125, ag_invV H zh_132 hd (by decide)⟩) (xB_l ⟨_, zs_ifeq em130_281 (t := 291) (by decide), as_if⟩)) (xB_n (xB_l ⟨_, zs_iload_n em130_284, as_iload⟩) (xB_l ⟨_, zs_iconst (v := 1) em130_285 (by decide +kernel), as_const (by decide +kernel)⟩))) (xB_n (xB_n (xB_l ⟨_, zs_iload em130_286, as_iload⟩) (xB_l ⟨_, zs_ishl em130_288, as_bin fshl_ok⟩)) (xB_n (xB_l ⟨_, zs_ior em130_289, as_bin fany_ok⟩) (xB_l ⟨_, zs_istore_n em130_290, as_istore⟩)))) (xB_n (xB_n (xB_n (xB_l ⟨_, zs_iinc (k := 1) em130_291 (by decide +kernel), as_iinc (by decide +kernel)⟩) (xB_l ⟨_, zs_goto em130_294 (t := 249) (by decide), as_goto⟩)) (xB_n (xB_l ⟨_, zs_iload_n em130_297, as_iload⟩) (xB_l ⟨_, zs_aload_n em130_299, as_aload⟩))) (xB_n (xB_n (xB_l ⟨_, zs_bipush (v := 120) em130_300 (by decide +kernel), as_const (by decide +kernel)⟩) (xB_l ⟨_, zs_sipush (v := 200) em130_302 (by decide +kernel), as_const (by decide +kernel)⟩)) (xB_n (xB_l ⟨_, zs_invV (T := TX12) em130_305 zl_214 rfl wd_1913 wd_1915 wd_109 ((congrFun xo_12 476).trans rfl) xm_187, ag_invV H zh_214 hd (by decide)⟩) (xB_l ⟨_, zs_iconst (v := (-1)) em130_309 (by decide +kernel), as_const (by decide +kernel)⟩))))))))
set_option maxRecDepth 100000 in
set_option maxHeartbeats 4000000 in
theorem zM_137 : zOKa 137 zc_137 := z_auto (cuts := [(249, ([(0, 0), (14, 14), (0, 2000), (0, 30), (0, 20), (0, 1), ((-2147483648), 2147483647), ((-2147483648), 2147483647), (0, 7)], [], [some (.inr (.inl (0, 75))), some (.inl (1, 0)), some (.inl (6, 0)), some (.inl (7, 0)), some (.inl (8, 0))], [], [(10, 2, 0), (20, 3, 0), (21, 4, 0), (22, 5, 0)], (0, 0)), [(0, 2), (0, 3), (0, 4)], 7, [0, 0, 0, 0, 0, 0, 0, 0, (-1)])]) (rets := [(93, 1), (103, 1), (112, 1), (121, 1), (128, 1), (135, 1), (143, 1), (152, 1), (161, 1), (166, 1), (171, 1), (176, 1), (221, 1), (234, 1), (298, 1), (308, 1), (310, 1)]) (fuel := 1000) rfl rfl (by decide) (xrt_ok (xR_c (Or.inl ⟨rfl, em130_93, rfl⟩) (xR_c (Or.inl ⟨rfl, em130_103, rfl⟩) (xR_c (Or.inl ⟨rfl, em130_112, rfl⟩) (xR_c (Or.inl ⟨rfl, em130_121, rfl⟩) (xR_c (Or.inl ⟨rfl, em130_128, rfl⟩) (xR_c (Or.inl ⟨rfl, em130_135, rfl⟩) (xR_c (Or.inl ⟨rfl, em130_143, rfl⟩) (xR_c (Or.inl ⟨rfl, em130_152, rfl⟩) (xR_c (Or.inl ⟨rfl, em130_161, rfl⟩) (xR_c (Or.inl ⟨rfl, em130_166, rfl⟩) (xR_c (Or.inl ⟨rfl, em130_171, rfl⟩) (xR_c (Or.inl ⟨rfl, em130_176, rfl⟩) (xR_c (Or.inl ⟨rfl, em130_221, rfl⟩) (xR_c (Or.inl ⟨rfl, em130_234, rfl⟩) (xR_c (Or.inl ⟨rfl, em130_298, rfl⟩) (xR_c (Or.inl ⟨rfl, em130_308, rfl⟩) (xR_c (Or.inl ⟨rfl, em130_310, rfl⟩) (xR_n))))))))))))))))))) (fun _ _ H _ hd => zTo_137 H hd) (by decide +kernel)
theorem em131_0 : decode prog_14_method_70_code 0 = .ok (.iconst 0, 1) := by decide +kernel
theorem em131_1 : decode prog_14_method_70_code 1 = .ok (.istore_n 1, 1) := by decide +kernel
theorem em131_2 : decode prog_14_method_70_code 2 = .ok (.iload_n 1, 1) := by decide +kernel
theorem em131_3 : decode prog_14_method_70_code 3 = .ok (.aload_n 0, 1) := by decide +kernel
theorem em131_4 : decode prog_14_method_70_code 4 = .ok (.getfield 49, 3) := by decide +kernel
theorem em131_7 : decode prog_14_method_70_code 7 = .ok (.aload_n 0, 1) := by decide +kernel
theorem em131_8 : decode prog_14_method_70_code 8 = .ok (.getfield 230, 3) := by decide +kernel
theorem em131_11 : decode prog_14_method_70_code 11 = .ok (.iaload, 1) := by decide +kernel
theorem em131_12 : decode prog_14_method_70_code 12 = .ok (.if_icmp .ge 20, 3) := by decide +kernel
theorem em131_15 : decode prog_14_method_70_code 15 = .ok (.aload_n 0, 1) := by decide +kernel
theorem em131_16 : decode prog_14_method_70_code 16 = .ok (.getfield 125, 3) := by decide +kernel
theorem em131_19 : decode prog_14_method_70_code 19 = .ok (.iload_n 1, 1) := by decide +kernel
theorem em131_20 : decode prog_14_method_70_code 20 = .ok (.aload_n 0, 1) := by decide +kernel
theorem em131_21 : decode prog_14_method_70_code 21 = .ok (.iload_n 1, 1) := by decide +kernel
theorem em131_22 : decode prog_14_method_70_code 22 = .ok (.invokevirtual 386, 3) := by decide +kernel
theorem em131_25 : decode prog_14_method_70_code 25 = .ok (.iastore, 1) := by decide +kernel
theorem em131_26 : decode prog_14_method_70_code 26 = .ok (.iinc 1 1, 3) := by decide +kernel
theorem em131_29 : decode prog_14_method_70_code 29 = .ok (.goto (-27), 3) := by decide +kernel
theorem em131_32 : decode prog_14_method_70_code 32 = .ok (.iconst 0, 1) := by decide +kernel
theorem em131_33 : decode prog_14_method_70_code 33 = .ok (.istore_n 1, 1) := by decide +kernel
theorem em131_34 : decode prog_14_method_70_code 34 = .ok (.iload_n 1, 1) := by decide +kernel
theorem em131_35 : decode prog_14_method_70_code 35 = .ok (.bipush 8, 2) := by decide +kernel
theorem em131_37 : decode prog_14_method_70_code 37 = .ok (.aload_n 0, 1) := by decide +kernel
theorem em131_38 : decode prog_14_method_70_code 38 = .ok (.getfield 43, 3) := by decide +kernel
theorem em131_41 : decode prog_14_method_70_code 41 = .ok (.aload_n 0, 1) := by decide +kernel
theorem em131_42 : decode prog_14_method_70_code 42 = .ok (.getfield 230, 3) := by decide +kernel
theorem em131_45 : decode prog_14_method_70_code 45 = .ok (.iaload, 1) := by decide +kernel
theorem em131_46 : decode prog_14_method_70_code 46 = .ok (.imul, 1) := by decide +kernel
theorem em131_47 : decode prog_14_method_70_code 47 = .ok (.if_icmp .ge 27, 3) := by decide +kernel
theorem em131_50 : decode prog_14_method_70_code 50 = .ok (.aload_n 0, 1) := by decide +kernel
theorem em131_51 : decode prog_14_method_70_code 51 = .ok (.getfield 122, 3) := by decide +kernel
theorem em131_54 : decode prog_14_method_70_code 54 = .ok (.iload_n 1, 1) := by decide +kernel
theorem em131_55 : decode prog_14_method_70_code 55 = .ok (.aload_n 0, 1) := by decide +kernel
theorem em131_56 : decode prog_14_method_70_code 56 = .ok (.iload_n 1, 1) := by decide +kernel
theorem em131_57 : decode prog_14_method_70_code 57 = .ok (.bipush 8, 2) := by decide +kernel
theorem em131_59 : decode prog_14_method_70_code 59 = .ok (.idiv, 1) := by decide +kernel
theorem em131_60 : decode prog_14_method_70_code 60 = .ok (.iload_n 1, 1) := by decide +kernel
theorem em131_61 : decode prog_14_method_70_code 61 = .ok (.bipush 8, 2) := by decide +kernel
theorem em131_63 : decode prog_14_method_70_code 63 = .ok (.irem, 1) := by decide +kernel
theorem em131_64 : decode prog_14_method_70_code 64 = .ok (.invokevirtual 389, 3) := by decide +kernel
theorem em131_67 : decode prog_14_method_70_code 67 = .ok (.iastore, 1) := by decide +kernel
theorem em131_68 : decode prog_14_method_70_code 68 = .ok (.iinc 1 1, 3) := by decide +kernel
theorem em131_71 : decode prog_14_method_70_code 71 = .ok (.goto (-37), 3) := by decide +kernel
theorem em131_74 : decode prog_14_method_70_code 74 = .ok (.iconst 0, 1) := by decide +kernel
theorem em131_75 : decode prog_14_method_70_code 75 = .ok (.istore_n 1, 1) := by decide +kernel
theorem em131_76 : decode prog_14_method_70_code 76 = .ok (.iload_n 1, 1) := by decide +kernel
theorem em131_77 : decode prog_14_method_70_code 77 = .ok (.aload_n 0, 1) := by decide +kernel
theorem em131_78 : decode prog_14_method_70_code 78 = .ok (.getfield 49, 3) := by decide +kernel
theorem em131_81 : decode prog_14_method_70_code 81 = .ok (.aload_n 0, 1) := by decide +kernel
theorem em131_82 : decode prog_14_method_70_code 82 = .ok (.getfield 230, 3) := by decide +kernel
theorem em131_85 : decode prog_14_method_70_code 85 = .ok (.iaload, 1) := by decide +kernel
theorem em131_86 : decode prog_14_method_70_code 86 = .ok (.if_icmp .ge 54, 3) := by decide +kernel
theorem em131_89 : decode prog_14_method_70_code 89 = .ok (.aload_n 0, 1) := by decide +kernel
theorem em131_90 : decode prog_14_method_70_code 90 = .ok (.getfield 116, 3) := by decide +kernel
theorem em131_93 : decode prog_14_method_70_code 93 = .ok (.sipush 320, 3) := by decide +kernel
theorem em131_96 : decode prog_14_method_70_code 96 = .ok (.iload_n 1, 1) := by decide +kernel
theorem em131_97 : decode prog_14_method_70_code 97 = .ok (.iadd, 1) := by decide +kernel
theorem em131_98 : decode prog_14_method_70_code 98 = .ok (.iaload, 1) := by decide +kernel
theorem em131_99 : decode prog_14_method_70_code 99 = .ok (.iconst 1, 1) := by decide +kernel
theorem em131_100 : decode prog_14_method_70_code 100 = .ok (.if_icmp .eq 6, 3) := by decide +kernel
theorem em131_103 : decode prog_14_method_70_code 103 = .ok (.goto 31, 3) := by decide +kernel
theorem em131_106 : decode prog_14_method_70_code 106 = .ok (.aload_n 0, 1) := by decide +kernel
theorem em131_107 : decode prog_14_method_70_code 107 = .ok (.getfield 116, 3) := by decide +kernel
theorem em131_110 : decode prog_14_method_70_code 110 = .ok (.sipush 320, 3) := by decide +kernel
theorem em131_113 : decode prog_14_method_70_code 113 = .ok (.iload_n 1, 1) := by decide +kernel
theorem em131_114 : decode prog_14_method_70_code 114 = .ok (.iadd, 1) := by decide +kernel
theorem em131_115 : decode prog_14_method_70_code 115 = .ok (.iconst 2, 1) := by decide +kernel
theorem em131_116 : decode prog_14_method_70_code 116 = .ok (.iastore, 1) := by decide +kernel
theorem em131_117 : decode prog_14_method_70_code 117 = .ok (.aload_n 0, 1) := by decide +kernel
theorem em131_118 : decode prog_14_method_70_code 118 = .ok (.getfield 116, 3) := by decide +kernel
theorem em131_121 : decode prog_14_method_70_code 121 = .ok (.sipush 387, 3) := by decide +kernel
theorem em131_124 : decode prog_14_method_70_code 124 = .ok (.dup2, 1) := by decide +kernel
theorem em131_125 : decode prog_14_method_70_code 125 = .ok (.iaload, 1) := by decide +kernel
theorem em131_126 : decode prog_14_method_70_code 126 = .ok (.aload_n 0, 1) := by decide +kernel
theorem em131_127 : decode prog_14_method_70_code 127 = .ok (.getfield 125, 3) := by decide +kernel
theorem em131_130 : decode prog_14_method_70_code 130 = .ok (.iload_n 1, 1) := by decide +kernel
theorem em131_131 : decode prog_14_method_70_code 131 = .ok (.iaload, 1) := by decide +kernel
theorem em131_132 : decode prog_14_method_70_code 132 = .ok (.iadd, 1) := by decide +kernel
theorem em131_133 : decode prog_14_method_70_code 133 = .ok (.iastore, 1) := by decide +kernel
theorem em131_134 : decode prog_14_method_70_code 134 = .ok (.iinc 1 1, 3) := by decide +kernel
theorem em131_137 : decode prog_14_method_70_code 137 = .ok (.goto (-61), 3) := by decide +kernel
theorem em131_140 : decode prog_14_method_70_code 140 = .ok (.iconst 0, 1) := by decide +kernel
theorem em131_141 : decode prog_14_method_70_code 141 = .ok (.istore_n 1, 1) := by decide +kernel
theorem em131_142 : decode prog_14_method_70_code 142 = .ok (.iload_n 1, 1) := by decide +kernel
theorem em131_143 : decode prog_14_method_70_code 143 = .ok (.bipush 8, 2) := by decide +kernel
theorem em131_145 : decode prog_14_method_70_code 145 = .ok (.aload_n 0, 1) := by decide +kernel
theorem em131_146 : decode prog_14_method_70_code 146 = .ok (.getfield 43, 3) := by decide +kernel
theorem em131_149 : decode prog_14_method_70_code 149 = .ok (.aload_n 0, 1) := by decide +kernel
theorem em131_150 : decode prog_14_method_70_code 150 = .ok (.getfield 230, 3) := by decide +kernel
theorem em131_153 : decode prog_14_method_70_code 153 = .ok (.iaload, 1) := by decide +kernel
theorem em131_154 : decode prog_14_method_70_code 154 = .ok (.imul, 1) := by decide +kernel
theorem em131_155 : decode prog_14_method_70_code 155 = .ok (.if_icmp .ge 14, 3) := by decide +kernel
theorem em131_158 : decode prog_14_method_70_code 158 = .ok (.aload_n 0, 1) := by decide +kernel
theorem em131_159 : decode prog_14_method_70_code 159 = .ok (.iload_n 1, 1) := by decide +kernel
theorem em131_160 : decode prog_14_method_70_code 160 = .ok (.invokevirtual 392, 3) := by decide +kernel
theorem em131_163 : decode prog_14_method_70_code 163 = .ok (.iinc 1 1, 3) := by decide +kernel
theorem em131_166 : decode prog_14_method_70_code 166 = .ok (.goto (-24), 3) := by decide +kernel
theorem em131_169 : decode prog_14_method_70_code 169 = .ok (.aload_n 0, 1) := by decide +kernel
theorem em131_170 : decode prog_14_method_70_code 170 = .ok (.getfield 331, 3) := by decide +kernel
theorem em131_173 : decode prog_14_method_70_code 173 = .ok (.ifCond .ne 14, 3) := by decide +kernel
theorem em131_176 : decode prog_14_method_70_code 176 = .ok (.aload_n 0, 1) := by decide +kernel
theorem em131_177 : decode prog_14_method_70_code 177 = .ok (.invokevirtual 395, 3) := by decide +kernel
theorem em131_180 : decode prog_14_method_70_code 180 = .ok (.ifCond .eq 7, 3) := by decide +kernel
theorem em131_183 : decode prog_14_method_70_code 183 = .ok (.aload_n 0, 1) := by decide +kernel
theorem em131_184 : decode prog_14_method_70_code 184 = .ok (.invokevirtual 399, 3) := by decide +kernel
theorem em131_187 : decode prog_14_method_70_code 187 = .ok (.aload_n 0, 1) := by decide +kernel
theorem em131_188 : decode prog_14_method_70_code 188 = .ok (.getfield 116, 3) := by decide +kernel
theorem em131_191 : decode prog_14_method_70_code 191 = .ok (.sipush 386, 3) := by decide +kernel
theorem em131_194 : decode prog_14_method_70_code 194 = .ok (.dup2, 1) := by decide +kernel
theorem em131_195 : decode prog_14_method_70_code 195 = .ok (.iaload, 1) := by decide +kernel
theorem em131_196 : decode prog_14_method_70_code 196 = .ok (.iconst 1, 1) := by decide +kernel
theorem em131_197 : decode prog_14_method_70_code 197 = .ok (.iadd, 1) := by decide +kernel
theorem em131_198 : decode prog_14_method_70_code 198 = .ok (.iastore, 1) := by decide +kernel
theorem em131_199 : decode prog_14_method_70_code 199 = .ok (.return_, 1) := by decide +kernel
/-! CapitalCaseModel.dayGoes:()V -/
noncomputable def zTr_138 : Nat → Option aF := bn 97 (bn 47 (bn 22 (bn 11 (bn 3 (bn 1 (bl 0 (a_const 0 1)) (bn 2 (bl 1 (a_istore 1 2)) (bl 2 (a_iload 1 3)))) (bn 7 (bn 4 (bl 3 (a_aload 0 4)) (bl 4 (a_getf zG0 zT0 12 4 7))) (bn 8 (bl 7 (a_aload 0 8)) (bl 8 (a_getf zG0 zT0 12 2 11))))) (bn 16 (bn 12 (bl 11 (a_ald zG0 zT0 (true, false) ts0 12)) (bn 15 (bl 12 (a_icmp 3 32 15)) (bl 15 (a_aload 0 16)))) (bn 20 (bn 19 (bl 16 (a_getf zG0 zT0 12 14 19)) (bl 19 (a_iload 1 20))) (bn 21 (bl 20 (a_aload 0 21)) (bl 21 (a_iload 1 22)))))) (bn 35 (bn 29 (bn 25 (bl 22 (a_invV zG0 zprot (true, false) zc_202 (zbd 202) (7, 0, 0) 12 2 25)) (bn 26 (bl 25 (a_ast zG0 zT0 ts0 26)) (bl 26 (a_iinc 1 1 29)))) (bn 33 (bn 32 (bl 29 (a_goto 2)) (bl 32 (a_const 0 33))) (bn 34 (bl 33 (a_istore 1 34)) (bl 34 (a_iload 1 35))))) (bn 41 (bn 37 (bl 35 (a_const 8 37)) (bn 38 (bl 37 (a_aload 0 38)) (bl 38 (a_getf zG0 zT0 12 3 41)))) (bn 45 (bn 42 (bl 41 (a_aload 0 42)) (bl 42 (a_getf zG0 zT0 12 2 45))) (bn 46 (bl 45 (a_ald zG0 zT0 (true, false) ts0 46)) (bl 46 (a_bin fmul 47))))))) (bn 71 (bn 59 (bn 54 (bn 50 (bl 47 (a_icmp 3 74 50)) (bn 51 (bl 50 (a_aload 0 51)) (bl 51 (a_getf zG0 zT0 12 15 54)))) (bn 56 (bn 55 (bl 54 (a_iload 1 55)) (bl 55 (a_aload 0 56))) (bn 57 (bl 56 (a_iload 1 57)) (bl 57 (a_const 8 59))))) (bn 63 (bn 60 (bl 59 (a_div fdiv 60)) (bn 61 (bl 60 (a_iload 1 61)) (bl 61 (a_const 8 63)))) (bn 67 (bn 64 (bl 63 (a_div frem 64)) (bl 64 (a_invV zG0 zprot (true, false) zc_226 (zbd 226) (7, 0, 0) 12 3 67))) (bn 68 (bl 67 (a_ast zG0 zT0 ts0 68)) (bl 68 (a_iinc 1 1 71)))))) (bn 82 (bn 76 (bn 74 (bl 71 (a_goto 34)) (bn 75 (bl 74 (a_const 0 75)) (bl 75 (a_istore 1 76)))) (bn 78 (bn 77 (bl 76 (a_iload 1 77)) (bl 77 (a_aload 0 78))) (bn 81 (bl 78 (a_getf zG0 zT0 12 4 81)) (bl 81 (a_aload 0 82))))) (bn 89 (bn 85 (bl 82 (a_getf zG0 zT0 12 2 85)) (bn 86 (bl 85 (a_ald zG0 zT0 (true, false) ts0 86)) (bl 86 (a_icmp 3 140 89)))) (bn 93 (bn 90 (bl 89 (a_aload 0 90)) (bl 90 (a_getf zG0 zT0 12 0 93))) (bn 96 (bl 93 (a_const 320 96)) (bl 96 (a_iload 1 97)))))))) (bn 143 (bn 121 (bn 110 (bn 100 (bn 98 (bl 97 (a_bin fadd 98)) (bn 99 (bl 98 (a_ald zG0 zT0 (true, false) ts0 99)) (bl 99 (a_const 1 100)))) (bn 106 (bn 103 (bl 100 (a_icmp 0 106 103)) (bl 103 (a_goto 134))) (bn 107 (bl 106 (a_aload 0 107)) (bl 107 (a_getf zG0 zT0 12 0 110))))) (bn 115 (bn 113 (bl 110 (a_const 320 113)) (bn 114 (bl 113 (a_iload 1 114)) (bl 114 (a_bin fadd 115)))) (bn 117 (bn 116 (bl 115 (a_const 2 116)) (bl 116 (a_ast zG0 zT0 ts0 117))) (bn 118 (bl 117 (a_aload 0 118)) (bl 118 (a_getf zG0 zT0 12 0 121)))))) (bn 132 (bn 126 (bn 124 (bl 121 (a_const 387 124)) (bn 125 (bl 124 (a_dup2 125)) (bl 125 (a_ald zG0 zT0 (true, false) ts0 126)))) (bn 130 (bn 127 (bl 126 (a_aload 0 127)) (bl 127 (a_getf zG0 zT0 12 14 130))) (bn 131 (bl 130 (a_iload 1 131)) (bl 131 (a_ald zG0 zT0 (true, false) ts0 132))))) (bn 137 (bn 133 (bl 132 (a_bin fadd 133)) (bn 134 (bl 133 (a_ast zG0 zT0 ts0 134)) (bl 134 (a_iinc 1 1 137)))) (bn 141 (bn 140 (bl 137 (a_goto 76)) (bl 140 (a_const 0 141))) (bn 142 (bl 141 (a_istore 1 142)) (bl 142 (a_iload 1 143))))))) (bn 170 (bn 155 (bn 149 (bn 145 (bl 143 (a_const 8 145)) (bn 146 (bl 145 (a_aload 0 146)) (bl 146 (a_getf zG0 zT0 12 3 149)))) (bn 153 (bn 150 (bl 149 (a_aload 0 150)) (bl 150 (a_getf zG0 zT0 12 2 153))) (bn 154 (bl 153 (a_ald zG0 zT0 (true, false) ts0 154)) (bl 154 (a_bin fmul 155))))) (bn 160 (bn 158 (bl 155 (a_icmp 3 169 158)) (bn 159 (bl 158 (a_aload 0 159)) (bl 159 (a_iload 1 160)))) (bn 166 (bn 163 (bl 160 (a_invV zG0 zprot (true, false) zc_225 (zbd 225) (7, 0, 0) 12 2 163)) (bl 163 (a_iinc 1 1 166))) (bn 169 (bl 166 (a_goto 142)) (bl 169 (a_aload 0 170)))))) (bn 187 (bn 177 (bn 173 (bl 170 (a_getf zG0 zT0 12 7 173)) (bn 176 (bl 173 (a_if 1 187 176)) (bl 176 (a_aload 0 177)))) (bn 183 (bn 180 (bl 177 (a_invV zG0 zprot (true, false) zc_123 (zbd 123) (7, 0, 0) 12 1 180)) (bl 180 (a_if 0 187 183))) (bn 184 (bl 183 (a_aload 0 184)) (bl 184 (a_invV zG0 zprot (true, false) zc_218 (zbd 218) (7, 0, 0) 12 1 187))))) (bn 195 (bn 191 (bn 188 (bl 187 (a_aload 0 188)) (bl 188 (a_getf zG0 zT0 12 0 191))) (bn 194 (bl 191 (a_const 386 194)) (bl 194 (a_dup2 195)))) (bn 197 (bn 196 (bl 195 (a_ald zG0 zT0 (true, false) ts0 196)) (bl 196 (a_const 1 197))) (bn 198 (bl 197 (a_bin fadd 198)) (bl 198 (a_ast zG0 zT0 ts0 199))))))))
set_option maxRecDepth 100000 in
set_option maxHeartbeats 4000000 in
theorem zTo_138 {pre : zPre} {post : zPost} (H : zTieC pre post) {d : Nat × Nat × Nat} (hd : zLe (7, 0, 0) d) : aTr zG0 zT0 zInv (true, false) PZ zbd pre post d prog_14_method_70_code "CapitalCaseModel" zTr_138 := (xB_n (xB_n (xB_n (xB_n (xB_n (xB_n (xB_l ⟨_, zs_iconst (v := 0) em131_0 (by decide +kernel), as_const (by decide +kernel)⟩) (xB_n (xB_l ⟨_, zs_istore_n em131_1, as_istore⟩) (xB_l ⟨_, zs_iload_n em131_2, as_iload⟩))) (xB_n (xB_n (xB_l ⟨_, zs_aload_n em131_3, as_aload⟩) (xB_l ⟨_, zs_getf (T := TX12) (M := 70) (ci := 12) (j := 4) em131_4 rfl inX12 (by decide) wd_1305 ((congrFun xo_12 49).trans rfl), as_getf zTie⟩)) (xB_n (xB_l ⟨_, zs_aload_n em131_7, as_aload⟩) (xB_l ⟨_, zs_getf (T := TX12) (M := 70) (ci := 12) (j := 2) em131_8 rfl inX12 (by decide) wd_1299 ((congrFun xo_12 230).trans rfl), as_getf zTie⟩)))) (xB_n (xB_n (xB_l ⟨_, zs_iald em131_11, ag_iald⟩) (xB_n (xB_l ⟨_, zs_icmpge em131_12 (t := 32) (by decide), as_icmp⟩) (xB_l ⟨_, zs_aload_n em131_15, as_aload⟩))) (xB_n (xB_n (xB_l ⟨_, zs_getf (T := TX12) (M := 70) (ci := 12) (j := 14) em131_16 rfl inX12 (by decide) wd_1339 ((congrFun xo_12 125).trans rfl), as_getf zTie⟩) (xB_l ⟨_, zs_iload_n em131_19, as_iload⟩)) (xB_n (xB_l ⟨_, zs_aload_n em131_20, as_aload⟩) (xB_l ⟨_, zs_iload_n em131_21, as_iload⟩))))) (xB_n (xB_n (xB_n (xB_l ⟨_, zs_invV (T := TX12) em131_22 zl_202 rfl wd_1682 wd_1684 wd_83 ((congrFun xo_12 386).trans rfl) xm_175, ag_invV H zh_202 hd (by decide)⟩) (xB_n (xB_l ⟨_, zs_iast zInj0 em131_25, as_iast zTie⟩) (xB_l ⟨_, zs_iinc (k := 1) em131_26 (by decide +kernel), as_iinc (by decide +kernel)⟩))) (xB_n (xB_n (xB_l ⟨_, zs_goto em131_29 (t := 2) (by decide), as_goto⟩) (xB_l ⟨_, zs_iconst (v := 0) em131_32 (by decide +kernel), as_const (by decide +kernel)⟩)) (xB_n (xB_l ⟨_, zs_istore_n em131_33, as_istore⟩) (xB_l ⟨_, zs_iload_n em131_34, as_iload⟩)))) (xB_n (xB_n (xB_l ⟨_, zs_bipush (v := 8) em131_35 (by decide +kernel), as_const (by decide +kernel)⟩) (xB_n (xB_l ⟨_, zs_aload_n em131_37, as_aload⟩) (xB_l ⟨_, zs_getf (T := TX12) (M := 70) (ci := 12) (j := 3) em131_38 rfl inX12 (by decide) wd_1303 ((congrFun xo_12 43).trans rfl), as_getf zTie⟩))) (xB_n (xB_n (xB_l ⟨_, zs_aload_n em131_41, as_aload⟩) (xB_l ⟨_, zs_getf (T := TX12) (M := 70) (ci := 12) (j := 2) em131_42 rfl inX12 (by decide) wd_1299 ((congrFun xo_12 230).trans rfl), as_getf zTie⟩)) (xB_n (xB_l ⟨_, zs_iald em131_45, ag_iald⟩) (xB_l ⟨_, zs_imul em131_46, as_bin fmul_ok⟩)))))) (xB_n (xB_n (xB_n (xB_n (xB_l ⟨_, zs_icmpge em131_47 (t := 74) (by decide), as_icmp⟩) (xB_n (xB_l ⟨_, zs_aload_n em131_50, as_aload⟩) (xB_l ⟨_, zs_getf (T := TX12) (M := 70) (ci := 12) (j := 15) em131_51 rfl inX12 (by decide) wd_1338 ((congrFun xo_12 122).trans rfl), as_getf zTie⟩))) (xB_n (xB_n (xB_l ⟨_, zs_iload_n em131_54, as_iload⟩) (xB_l ⟨_, zs_aload_n em131_55, as_aload⟩)) (xB_n (xB_l ⟨_, zs_iload_n em131_56, as_iload⟩) (xB_l ⟨_, zs_bipush (v := 8) em131_57 (by decide +kernel), as_const (by decide +kernel)⟩)))) (xB_n (xB_n (xB_l ⟨_, zs_idiv em131_59, as_div fdiv_ok⟩) (xB_n (xB_l ⟨_, zs_iload_n em131_60, as_iload⟩) (xB_l ⟨_, zs_bipush (v := 8) em131_61 (by decide +kernel), as_const (by decide +kernel)⟩))) (xB_n (xB_n (xB_l ⟨_, zs_irem em131_63, as_div frem_ok⟩) (xB_l ⟨_, zs_invV (T := TX12) em131_64 zl_226 rfl wd_1651 wd_1653 wd_77 ((congrFun xo_12 389).trans rfl) xm_199, ag_invV H zh_226 hd (by decide)⟩)) (xB_n (xB_l ⟨_, zs_iast zInj0 em131_67, as_iast zTie⟩) (xB_l ⟨_, zs_iinc (k := 1) em131_68 (by decide +kernel), as_iinc (by decide +kernel)⟩))))) (xB_n (xB_n (xB_n (xB_l ⟨_, zs_goto em131_71 (t := 34) (by decide), as_goto⟩) (xB_n (xB_l ⟨_, zs_iconst (v := 0) em131_74 (by decide +kernel), as_const (by decide +kernel)⟩) (xB_l ⟨_, zs_istore_n em131_75, as_istore⟩))) (xB_n (xB_n (xB_l ⟨_, zs_iload_n em131_76, as_iload⟩) (xB_l ⟨_, zs_aload_n em131_77, as_aload⟩)) (xB_n (xB_l ⟨_, zs_getf (T := TX12) (M := 70) (ci := 12) (j := 4) em131_78 rfl inX12 (by decide) wd_1305 ((congrFun xo_12 49).trans rfl), as_getf zTie⟩) (xB_l ⟨_, zs_aload_n em131_81, as_aload⟩)))) (xB_n (xB_n (xB_l ⟨_, zs_getf (T := TX12) (M := 70) (ci := 12) (j := 2) em131_82 rfl inX12 (by decide) wd_1299 ((congrFun xo_12 230).trans rfl), as_getf zTie⟩) (xB_n (xB_l ⟨_, zs_iald em131_85, ag_iald⟩) (xB_l ⟨_, zs_icmpge em131_86 (t := 140) (by decide), as_icmp⟩))) (xB_n (xB_n (xB_l ⟨_, zs_aload_n em131_89, as_aload⟩) (xB_l ⟨_, zs_getf (T := TX12) (M := 70) (ci := 12) (j := 0) em131_90 rfl inX12 (by decide) wd_1332 ((congrFun xo_12 116).trans rfl), as_getf zTie⟩)) (xB_n (xB_l ⟨_, zs_sipush (v := 320) em131_93 (by decide +kernel), as_const (by decide +kernel)⟩) (xB_l ⟨_, zs_iload_n em131_96, as_iload⟩))))))) (xB_n (xB_n (xB_n (xB_n (xB_n (xB_l ⟨_, zs_iadd em131_97, as_bin fadd_ok⟩) (xB_n (xB_l ⟨_, zs_iald em131_98, ag_iald⟩) (xB_l ⟨_, zs_iconst (v := 1) em131_99 (by decide +kernel), as_const (by decide +kernel)⟩))) (xB_n (xB_n (xB_l ⟨_, zs_icmpeq em131_100 (t := 106) (by decide), as_icmp⟩) (xB_l ⟨_, zs_goto em131_103 (t := 134) (by decide), as_goto⟩)) (xB_n (xB_l ⟨_, zs_aload_n em131_106, as_aload⟩) (xB_l ⟨_, zs_getf (T := TX12) (M := 70) (ci := 12) (j := 0) em131_107 rfl inX12 (by decide) wd_1332 ((congrFun xo_12 116).trans rfl), as_getf zTie⟩)))) (xB_n (xB_n (xB_l ⟨_, zs_sipush (v := 320) em131_110 (by decide +kernel), as_const (by decide +kernel)⟩) (xB_n (xB_l ⟨_, zs_iload_n em131_113, as_iload⟩) (xB_l ⟨_, zs_iadd em131_114, as_bin fadd_ok⟩))) (xB_n (xB_n (xB_l ⟨_, zs_iconst (v := 2) em131_115 (by decide +kernel), as_const (by decide +kernel)⟩) (xB_l ⟨_, zs_iast zInj0 em131_116, as_iast zTie⟩)) (xB_n (xB_l ⟨_, zs_aload_n em131_117, as_aload⟩) (xB_l ⟨_, zs_getf (T := TX12) (M := 70) (ci := 12) (j := 0) em131_118 rfl inX12 (by decide) wd_1332 ((congrFun xo_12 116).trans rfl), as_getf zTie⟩))))) (xB_n (xB_n (xB_n (xB_l ⟨_, zs_sipush (v := 387) em131_121 (by decide +kernel), as_const (by decide +kernel)⟩) (xB_n (xB_l ⟨_, zs_dup2 em131_124, as_dup2⟩) (xB_l ⟨_, zs_iald em131_125, ag_iald⟩))) (xB_n (xB_n (xB_l ⟨_, zs_aload_n em131_126, as_aload⟩) (xB_l ⟨_, zs_getf (T := TX12) (M := 70) (ci := 12) (j := 14) em131_127 rfl inX12 (by decide) wd_1339 ((congrFun xo_12 125).trans rfl), as_getf zTie⟩)) (xB_n (xB_l ⟨_, zs_iload_n em131_130, as_iload⟩) (xB_l ⟨_, zs_iald em131_131, ag_iald⟩)))) (xB_n (xB_n (xB_l ⟨_, zs_iadd em131_132, as_bin fadd_ok⟩) (xB_n (xB_l ⟨_, zs_iast zInj0 em131_133, as_iast zTie⟩) (xB_l ⟨_, zs_iinc (k := 1) em131_134 (by decide +kernel), as_iinc (by decide +kernel)⟩))) (xB_n (xB_n (xB_l ⟨_, zs_goto em131_137 (t := 76) (by decide), as_goto⟩) (xB_l ⟨_, zs_iconst (v := 0) em131_140 (by decide +kernel), as_const (by decide +kernel)⟩)) (xB_n (xB_l ⟨_, zs_istore_n em131_141, as_istore⟩) (xB_l ⟨_, zs_iload_n em131_142, as_iload⟩)))))) (xB_n (xB_n (xB_n (xB_n (xB_l ⟨_, zs_bipush (v := 8) em131_143 (by decide +kernel), as_const (by decide +kernel)⟩) (xB_n (xB_l ⟨_, zs_aload_n em131_145, as_aload⟩) (xB_l ⟨_, zs_getf (T := TX12) (M := 70) (ci := 12) (j := 3) em131_146 rfl inX12 (by decide) wd_1303 ((congrFun xo_12 43).trans rfl), as_getf zTie⟩))) (xB_n (xB_n (xB_l ⟨_, zs_aload_n em131_149, as_aload⟩) (xB_l ⟨_, zs_getf (T := TX12) (M := 70) (ci := 12) (j := 2) em131_150 rfl inX12 (by decide) wd_1299 ((congrFun xo_12 230).trans rfl), as_getf zTie⟩)) (xB_n (xB_l ⟨_, zs_iald em131_153, ag_iald⟩) (xB_l ⟨_, zs_imul em131_154, as_bin fmul_ok⟩)))) (xB_n (xB_n (xB_l ⟨_, zs_icmpge em131_155 (t := 169) (by decide), as_icmp⟩) (xB_n (xB_l ⟨_, zs_aload_n em131_158, as_aload⟩) (xB_l ⟨_, zs_iload_n em131_159, as_iload⟩))) (xB_n (xB_n (xB_l ⟨_, zs_invV (T := TX12) em131_160 zl_225 rfl wd_1762 wd_1764 wd_95 ((congrFun xo_12 392).trans rfl) xm_198, ag_invV H zh_225 hd (by decide)⟩) (xB_l ⟨_, zs_iinc (k := 1) em131_163 (by decide +kernel), as_iinc (by decide +kernel)⟩)) (xB_n (xB_l ⟨_, zs_goto em131_166 (t := 142) (by decide), as_goto⟩) (xB_l ⟨_, zs_aload_n em131_169, as_aload⟩))))) (xB_n (xB_n (xB_n (xB_l ⟨_, zs_getf (T := TX12) (M := 70) (ci := 12) (j := 7) em131_170 rfl inX12 (by decide) wd_1334 ((congrFun xo_12 331).trans rfl), as_getf zTie⟩) (xB_n (xB_l ⟨_, zs_ifne em131_173 (t := 187) (by decide), as_if⟩) (xB_l ⟨_, zs_aload_n em131_176, as_aload⟩))) (xB_n (xB_n (xB_l ⟨_, zs_invV (T := TX12) em131_177 zl_123 rfl wd_1766 wd_1768 wd_96 ((congrFun xo_12 395).trans rfl) xm_116, ag_invV H zh_123 hd (by decide)⟩) (xB_l ⟨_, zs_ifeq em131_180 (t := 187) (by decide), as_if⟩)) (xB_n (xB_l ⟨_, zs_aload_n em131_183, as_aload⟩) (xB_l ⟨_, zs_invV (T := TX12) em131_184 zl_218 rfl wd_1778 wd_1780 wd_98 ((congrFun xo_12 399).trans rfl) xm_191, ag_invV H zh_218 hd (by decide)⟩)))) (xB_n (xB_n (xB_n (xB_l ⟨_, zs_aload_n em131_187, as_aload⟩) (xB_l ⟨_, zs_getf (T := TX12) (M := 70) (ci := 12) (j := 0) em131_188 rfl inX12 (by decide) wd_1332 ((congrFun xo_12 116).trans rfl), as_getf zTie⟩)) (xB_n (xB_l ⟨_, zs_sipush (v := 386) em131_191 (by decide +kernel), as_const (by decide +kernel)⟩) (xB_l ⟨_, zs_dup2 em131_194, as_dup2⟩))) (xB_n (xB_n (xB_l ⟨_, zs_iald em131_195, ag_iald⟩) (xB_l ⟨_, zs_iconst (v := 1) em131_196 (by decide +kernel), as_const (by decide +kernel)⟩)) (xB_n (xB_l ⟨_, zs_iadd em131_197, as_bin fadd_ok⟩) (xB_l ⟨_, zs_iast zInj0 em131_198, as_iast zTie⟩))))))))
set_option maxRecDepth 100000 in
set_option maxHeartbeats 4000000 in
theorem zM_138 : zOKa 138 zc_138 := z_auto (cuts := [(2, ([(0, 0), (0, 1), (0, 7)], [], [some (.inr (.inl (0, 75))), some (.inl (2, 0))], [], [(22, 1, 0)], (0, 0)), [(0, 1)], 97, [0, 0, (-1)]), (34, ([(0, 0), (0, 1), (0, 40)], [], [some (.inr (.inl (0, 75))), some (.inl (2, 0))], [], [(22, 1, 0)], (0, 0)), [(0, 1)], 89, [0, 0, (-1)]), (76, ([(0, 0), (0, 1), (0, 7)], [], [some (.inr (.inl (0, 75))), some (.inl (2, 0))], [], [(22, 1, 0)], (0, 0)), [(0, 1)], 48, [0, 0, (-1)]), (142, ([(0, 0), (0, 1), (0, 40)], [], [some (.inr (.inl (0, 75))), some (.inl (2, 0))], [], [(22, 1, 0)], (0, 0)), [(0, 1)], 40, [0, 0, (-1)])]) (rets := [(199, 3)]) (fuel := 1000) rfl rfl (by decide) (xrt_ok (xR_c (Or.inr (Or.inr (Or.inl ⟨rfl, em131_199, rfl⟩))) (xR_n))) (fun _ _ H _ hd => zTo_138 H hd) (by decide +kernel)
