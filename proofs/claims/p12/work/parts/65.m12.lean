theorem em199_0 : decode prog_14_method_61_code 0 = .ok (.aload_n 0, 1) := by decide +kernel
theorem em199_1 : decode prog_14_method_61_code 1 = .ok (.iload_n 1, 1) := by decide +kernel
theorem em199_2 : decode prog_14_method_61_code 2 = .ok (.iload_n 2, 1) := by decide +kernel
theorem em199_3 : decode prog_14_method_61_code 3 = .ok (.invokevirtual 353, 3) := by decide +kernel
theorem em199_6 : decode prog_14_method_61_code 6 = .ok (.aload_n 0, 1) := by decide +kernel
theorem em199_7 : decode prog_14_method_61_code 7 = .ok (.iconst 2, 1) := by decide +kernel
theorem em199_8 : decode prog_14_method_61_code 8 = .ok (.iconst 1, 1) := by decide +kernel
theorem em199_9 : decode prog_14_method_61_code 9 = .ok (.invokevirtual 359, 3) := by decide +kernel
theorem em199_12 : decode prog_14_method_61_code 12 = .ok (.iconst 0, 1) := by decide +kernel
theorem em199_13 : decode prog_14_method_61_code 13 = .ok (.bipush 9, 2) := by decide +kernel
theorem em199_15 : decode prog_14_method_61_code 15 = .ok (.invokestatic 362, 3) := by decide +kernel
theorem em199_18 : decode prog_14_method_61_code 18 = .ok (.ireturn, 1) := by decide +kernel
/-! CapitalCaseModel.wearsOf:(II)I -/
noncomputable def zTr_226 : Nat → Option aF := bn 7 (bn 2 (bn 1 (bl 0 (a_aload 0 1)) (bl 1 (a_iload 1 2))) (bn 3 (bl 2 (a_iload 2 3)) (bn 6 (bl 3 (a_invV zG0 zprot (true, false) zc_191 (zbd 191) (6, 0, 0) 12 3 6)) (bl 6 (a_aload 0 7))))) (bn 12 (bn 8 (bl 7 (a_const 2 8)) (bn 9 (bl 8 (a_const 1 9)) (bl 9 (a_invV zG0 zprot (true, false) zc_185 (zbd 185) (6, 0, 0) 12 3 12)))) (bn 13 (bl 12 (a_const 0 13)) (bn 15 (bl 13 (a_const 9 15)) (bl 15 (a_inv zG0 zprot (true, false) zc_152 (zbd 152) (6, 0, 0) 3 18)))))
set_option maxRecDepth 100000 in
set_option maxHeartbeats 4000000 in
theorem zTo_226 {pre : zPre} {post : zPost} (H : zTieC pre post) {d : Nat × Nat × Nat} (hd : zLe (6, 0, 0) d) : aTr zG0 zT0 zInv (true, false) PZ zbd pre post d prog_14_method_61_code "CapitalCaseModel" zTr_226 := (xB_n (xB_n (xB_n (xB_l ⟨_, zs_aload_n em199_0, as_aload⟩) (xB_l ⟨_, zs_iload_n em199_1, as_iload⟩)) (xB_n (xB_l ⟨_, zs_iload_n em199_2, as_iload⟩) (xB_n (xB_l ⟨_, zs_invV (T := TX12) em199_3 zl_191 rfl wd_1655 wd_1657 wd_78 ((congrFun xo_12 353).trans rfl) xm_165, ag_invV H zh_191 hd (by decide)⟩) (xB_l ⟨_, zs_aload_n em199_6, as_aload⟩)))) (xB_n (xB_n (xB_l ⟨_, zs_iconst (v := 2) em199_7 (by decide +kernel), as_const (by decide +kernel)⟩) (xB_n (xB_l ⟨_, zs_iconst (v := 1) em199_8 (by decide +kernel), as_const (by decide +kernel)⟩) (xB_l ⟨_, zs_invV (T := TX12) em199_9 zl_185 rfl wd_1663 wd_1665 wd_80 ((congrFun xo_12 359).trans rfl) xm_159, ag_invV H zh_185 hd (by decide)⟩))) (xB_n (xB_l ⟨_, zs_iconst (v := 0) em199_12 (by decide +kernel), as_const (by decide +kernel)⟩) (xB_n (xB_l ⟨_, zs_bipush (v := 9) em199_13 (by decide +kernel), as_const (by decide +kernel)⟩) (xB_l ⟨_, zs_invS em199_15 zl_152 wd_1671 wd_1672 ((congrFun xo_12 362).trans rfl) xm_145, ag_inv H zh_152 hd (by decide)⟩)))))
set_option maxRecDepth 100000 in
set_option maxHeartbeats 4000000 in
theorem zM_226 : zOKa 226 zc_226 := z_auto (cuts := []) (rets := [(18, 1)]) (fuel := 1000) rfl rfl (by decide) (xrt_ok (xR_c (Or.inl ⟨rfl, em199_18, rfl⟩) (xR_n))) (fun _ _ H _ hd => zTo_226 H hd) (by decide +kernel)
theorem em200_0 : decode prog_14_method_109_code 0 = .ok (.iload_n 1, 1) := by decide +kernel
theorem em200_1 : decode prog_14_method_109_code 1 = .ok (.iconst 0, 1) := by decide +kernel
theorem em200_2 : decode prog_14_method_109_code 2 = .ok (.aload_n 0, 1) := by decide +kernel
theorem em200_3 : decode prog_14_method_109_code 3 = .ok (.getfield 251, 3) := by decide +kernel
theorem em200_6 : decode prog_14_method_109_code 6 = .ok (.invokestatic 324, 3) := by decide +kernel
theorem em200_9 : decode prog_14_method_109_code 9 = .ok (.ifCond .eq 12, 3) := by decide +kernel
theorem em200_12 : decode prog_14_method_109_code 12 = .ok (.iload_n 2, 1) := by decide +kernel
theorem em200_13 : decode prog_14_method_109_code 13 = .ok (.iconst 0, 1) := by decide +kernel
theorem em200_14 : decode prog_14_method_109_code 14 = .ok (.iconst 1, 1) := by decide +kernel
theorem em200_15 : decode prog_14_method_109_code 15 = .ok (.invokestatic 324, 3) := by decide +kernel
theorem em200_18 : decode prog_14_method_109_code 18 = .ok (.ifCond .ne 5, 3) := by decide +kernel
theorem em200_21 : decode prog_14_method_109_code 21 = .ok (.iconst (-1), 1) := by decide +kernel
theorem em200_22 : decode prog_14_method_109_code 22 = .ok (.ireturn, 1) := by decide +kernel
theorem em200_23 : decode prog_14_method_109_code 23 = .ok (.aload_n 0, 1) := by decide +kernel
theorem em200_24 : decode prog_14_method_109_code 24 = .ok (.iload_n 1, 1) := by decide +kernel
theorem em200_25 : decode prog_14_method_109_code 25 = .ok (.invokevirtual 467, 3) := by decide +kernel
theorem em200_28 : decode prog_14_method_109_code 28 = .ok (.istore_n 3, 1) := by decide +kernel
theorem em200_29 : decode prog_14_method_109_code 29 = .ok (.iload_n 2, 1) := by decide +kernel
theorem em200_30 : decode prog_14_method_109_code 30 = .ok (.ifCond .ne 10, 3) := by decide +kernel
theorem em200_33 : decode prog_14_method_109_code 33 = .ok (.iload_n 3, 1) := by decide +kernel
theorem em200_34 : decode prog_14_method_109_code 34 = .ok (.invokestatic 470, 3) := by decide +kernel
theorem em200_37 : decode prog_14_method_109_code 37 = .ok (.goto 4, 3) := by decide +kernel
theorem em200_40 : decode prog_14_method_109_code 40 = .ok (.iload_n 3, 1) := by decide +kernel
theorem em200_41 : decode prog_14_method_109_code 41 = .ok (.ireturn, 1) := by decide +kernel
/-! CapitalCaseModel.whose:(II)I -/
noncomputable def zTr_227 : Nat → Option aF := bn 21 (bn 9 (bn 2 (bn 1 (bl 0 (a_iload 1 1)) (bl 1 (a_const 0 2))) (bn 3 (bl 2 (a_aload 0 3)) (bn 6 (bl 3 (a_getf zG0 zT0 12 64 6)) (bl 6 (a_inv zG0 zprot (true, false) zc_173 (zbd 173) (1, 0, 0) 3 9))))) (bn 14 (bn 12 (bl 9 (a_if 0 21 12)) (bn 13 (bl 12 (a_iload 2 13)) (bl 13 (a_const 0 14)))) (bn 15 (bl 14 (a_const 1 15)) (bn 18 (bl 15 (a_inv zG0 zprot (true, false) zc_172 (zbd 172) (1, 0, 0) 3 18)) (bl 18 (a_if 1 23 21)))))) (bn 29 (bn 24 (bn 23 (bl 21 (a_const (-1) 22)) (bl 23 (a_aload 0 24))) (bn 25 (bl 24 (a_iload 1 25)) (bn 28 (bl 25 (a_invV zG0 zprot (true, false) zc_228 (zbd 228) (1, 0, 0) 12 2 28)) (bl 28 (a_istore 3 29))))) (bn 34 (bn 30 (bl 29 (a_iload 2 30)) (bn 33 (bl 30 (a_if 1 40 33)) (bl 33 (a_iload 3 34)))) (bn 37 (bl 34 (a_inv zG0 zprot (true, false) zc_130 (zbd 130) (1, 0, 0) 1 37)) (bn 40 (bl 37 (a_goto 41)) (bl 40 (a_iload 3 41))))))
set_option maxRecDepth 100000 in
set_option maxHeartbeats 4000000 in
theorem zTo_227 {pre : zPre} {post : zPost} (H : zTieC pre post) {d : Nat × Nat × Nat} (hd : zLe (1, 0, 0) d) : aTr zG0 zT0 zInv (true, false) PZ zbd pre post d prog_14_method_109_code "CapitalCaseModel" zTr_227 := (xB_n (xB_n (xB_n (xB_n (xB_l ⟨_, zs_iload_n em200_0, as_iload⟩) (xB_l ⟨_, zs_iconst (v := 0) em200_1 (by decide +kernel), as_const (by decide +kernel)⟩)) (xB_n (xB_l ⟨_, zs_aload_n em200_2, as_aload⟩) (xB_n (xB_l ⟨_, zs_getf (T := TX12) (M := 70) (ci := 12) (j := 64) em200_3 rfl inX12 (by decide) wd_1345 ((congrFun xo_12 251).trans rfl), as_getf zTie⟩) (xB_l ⟨_, zs_invS em200_6 zl_173 wd_1629 wd_1630 ((congrFun xo_12 324).trans rfl) xm_148, ag_inv H zh_173 hd (by decide)⟩)))) (xB_n (xB_n (xB_l ⟨_, zs_ifeq em200_9 (t := 21) (by decide), as_if⟩) (xB_n (xB_l ⟨_, zs_iload_n em200_12, as_iload⟩) (xB_l ⟨_, zs_iconst (v := 0) em200_13 (by decide +kernel), as_const (by decide +kernel)⟩))) (xB_n (xB_l ⟨_, zs_iconst (v := 1) em200_14 (by decide +kernel), as_const (by decide +kernel)⟩) (xB_n (xB_l ⟨_, zs_invS em200_15 zl_172 wd_1629 wd_1630 ((congrFun xo_12 324).trans rfl) xm_148, ag_inv H zh_172 hd (by decide)⟩) (xB_l ⟨_, zs_ifne em200_18 (t := 23) (by decide), as_if⟩))))) (xB_n (xB_n (xB_n (xB_l ⟨_, zs_iconst (v := (-1)) em200_21 (by decide +kernel), as_const (by decide +kernel)⟩) (xB_l ⟨_, zs_aload_n em200_23, as_aload⟩)) (xB_n (xB_l ⟨_, zs_iload_n em200_24, as_iload⟩) (xB_n (xB_l ⟨_, zs_invV (T := TX12) em200_25 zl_228 rfl wd_1886 wd_1888 wd_107 ((congrFun xo_12 467).trans rfl) xm_201, ag_invV H zh_228 hd (by decide)⟩) (xB_l ⟨_, zs_istore_n em200_28, as_istore⟩)))) (xB_n (xB_n (xB_l ⟨_, zs_iload_n em200_29, as_iload⟩) (xB_n (xB_l ⟨_, zs_ifne em200_30 (t := 40) (by decide), as_if⟩) (xB_l ⟨_, zs_iload_n em200_33, as_iload⟩))) (xB_n (xB_l ⟨_, zs_invS em200_34 zl_130 wd_1890 wd_1891 ((congrFun xo_12 470).trans rfl) xm_123, ag_inv H zh_130 hd (by decide)⟩) (xB_n (xB_l ⟨_, zs_goto em200_37 (t := 41) (by decide), as_goto⟩) (xB_l ⟨_, zs_iload_n em200_40, as_iload⟩))))))
set_option maxRecDepth 100000 in
set_option maxHeartbeats 4000000 in
theorem zM_227 : zOKa 227 zc_227 := z_auto (cuts := []) (rets := [(22, 1), (41, 1)]) (fuel := 1000) rfl rfl (by decide) (xrt_ok (xR_c (Or.inl ⟨rfl, em200_22, rfl⟩) (xR_c (Or.inl ⟨rfl, em200_41, rfl⟩) (xR_n)))) (fun _ _ H _ hd => zTo_227 H hd) (by decide +kernel)
theorem em201_0 : decode prog_14_method_108_code 0 = .ok (.iconst 0, 1) := by decide +kernel
theorem em201_1 : decode prog_14_method_108_code 1 = .ok (.istore_n 2, 1) := by decide +kernel
theorem em201_2 : decode prog_14_method_108_code 2 = .ok (.iconst 0, 1) := by decide +kernel
theorem em201_3 : decode prog_14_method_108_code 3 = .ok (.istore_n 3, 1) := by decide +kernel
theorem em201_4 : decode prog_14_method_108_code 4 = .ok (.iload_n 3, 1) := by decide +kernel
theorem em201_5 : decode prog_14_method_108_code 5 = .ok (.aload_n 0, 1) := by decide +kernel
theorem em201_6 : decode prog_14_method_108_code 6 = .ok (.getfield 43, 3) := by decide +kernel
theorem em201_9 : decode prog_14_method_108_code 9 = .ok (.aload_n 0, 1) := by decide +kernel
theorem em201_10 : decode prog_14_method_108_code 10 = .ok (.getfield 230, 3) := by decide +kernel
theorem em201_13 : decode prog_14_method_108_code 13 = .ok (.iaload, 1) := by decide +kernel
theorem em201_14 : decode prog_14_method_108_code 14 = .ok (.if_icmp .ge 86, 3) := by decide +kernel
theorem em201_17 : decode prog_14_method_108_code 17 = .ok (.iconst 1, 1) := by decide +kernel
theorem em201_18 : decode prog_14_method_108_code 18 = .ok (.istore 4, 2) := by decide +kernel
theorem em201_20 : decode prog_14_method_108_code 20 = .ok (.iconst 0, 1) := by decide +kernel
theorem em201_21 : decode prog_14_method_108_code 21 = .ok (.istore 5, 2) := by decide +kernel
theorem em201_23 : decode prog_14_method_108_code 23 = .ok (.iload 5, 2) := by decide +kernel
theorem em201_25 : decode prog_14_method_108_code 25 = .ok (.iload_n 1, 1) := by decide +kernel
theorem em201_26 : decode prog_14_method_108_code 26 = .ok (.if_icmp .ge 57, 3) := by decide +kernel
theorem em201_29 : decode prog_14_method_108_code 29 = .ok (.aload_n 0, 1) := by decide +kernel
theorem em201_30 : decode prog_14_method_108_code 30 = .ok (.getfield 113, 3) := by decide +kernel
theorem em201_33 : decode prog_14_method_108_code 33 = .ok (.bipush 80, 2) := by decide +kernel
theorem em201_35 : decode prog_14_method_108_code 35 = .ok (.bipush 8, 2) := by decide +kernel
theorem em201_37 : decode prog_14_method_108_code 37 = .ok (.iload_n 3, 1) := by decide +kernel
theorem em201_38 : decode prog_14_method_108_code 38 = .ok (.imul, 1) := by decide +kernel
theorem em201_39 : decode prog_14_method_108_code 39 = .ok (.iadd, 1) := by decide +kernel
theorem em201_40 : decode prog_14_method_108_code 40 = .ok (.aload_n 0, 1) := by decide +kernel
theorem em201_41 : decode prog_14_method_108_code 41 = .ok (.getfield 134, 3) := by decide +kernel
theorem em201_44 : decode prog_14_method_108_code 44 = .ok (.iload 5, 2) := by decide +kernel
theorem em201_46 : decode prog_14_method_108_code 46 = .ok (.iaload, 1) := by decide +kernel
theorem em201_47 : decode prog_14_method_108_code 47 = .ok (.iadd, 1) := by decide +kernel
theorem em201_48 : decode prog_14_method_108_code 48 = .ok (.iaload, 1) := by decide +kernel
theorem em201_49 : decode prog_14_method_108_code 49 = .ok (.aload_n 0, 1) := by decide +kernel
theorem em201_50 : decode prog_14_method_108_code 50 = .ok (.getfield 137, 3) := by decide +kernel
theorem em201_53 : decode prog_14_method_108_code 53 = .ok (.iload 5, 2) := by decide +kernel
theorem em201_55 : decode prog_14_method_108_code 55 = .ok (.iaload, 1) := by decide +kernel
theorem em201_56 : decode prog_14_method_108_code 56 = .ok (.if_icmp .lt 7, 3) := by decide +kernel
theorem em201_59 : decode prog_14_method_108_code 59 = .ok (.iconst 1, 1) := by decide +kernel
theorem em201_60 : decode prog_14_method_108_code 60 = .ok (.goto 4, 3) := by decide +kernel
theorem em201_63 : decode prog_14_method_108_code 63 = .ok (.iconst 0, 1) := by decide +kernel
theorem em201_64 : decode prog_14_method_108_code 64 = .ok (.aload_n 0, 1) := by decide +kernel
theorem em201_65 : decode prog_14_method_108_code 65 = .ok (.getfield 140, 3) := by decide +kernel
theorem em201_68 : decode prog_14_method_108_code 68 = .ok (.iload 5, 2) := by decide +kernel
theorem em201_70 : decode prog_14_method_108_code 70 = .ok (.baload, 1) := by decide +kernel
theorem em201_71 : decode prog_14_method_108_code 71 = .ok (.if_icmp .eq 6, 3) := by decide +kernel
theorem em201_74 : decode prog_14_method_108_code 74 = .ok (.iconst 0, 1) := by decide +kernel
theorem em201_75 : decode prog_14_method_108_code 75 = .ok (.istore 4, 2) := by decide +kernel
theorem em201_77 : decode prog_14_method_108_code 77 = .ok (.iinc 5 1, 3) := by decide +kernel
theorem em201_80 : decode prog_14_method_108_code 80 = .ok (.goto (-57), 3) := by decide +kernel
theorem em201_83 : decode prog_14_method_108_code 83 = .ok (.iload 4, 2) := by decide +kernel
theorem em201_85 : decode prog_14_method_108_code 85 = .ok (.ifCond .eq 9, 3) := by decide +kernel
theorem em201_88 : decode prog_14_method_108_code 88 = .ok (.iload_n 2, 1) := by decide +kernel
theorem em201_89 : decode prog_14_method_108_code 89 = .ok (.iconst 1, 1) := by decide +kernel
theorem em201_90 : decode prog_14_method_108_code 90 = .ok (.iload_n 3, 1) := by decide +kernel
theorem em201_91 : decode prog_14_method_108_code 91 = .ok (.ishl, 1) := by decide +kernel
theorem em201_92 : decode prog_14_method_108_code 92 = .ok (.ior, 1) := by decide +kernel
theorem em201_93 : decode prog_14_method_108_code 93 = .ok (.istore_n 2, 1) := by decide +kernel
theorem em201_94 : decode prog_14_method_108_code 94 = .ok (.iinc 3 1, 3) := by decide +kernel
theorem em201_97 : decode prog_14_method_108_code 97 = .ok (.goto (-93), 3) := by decide +kernel
theorem em201_100 : decode prog_14_method_108_code 100 = .ok (.iload_n 2, 1) := by decide +kernel
theorem em201_101 : decode prog_14_method_108_code 101 = .ok (.ireturn, 1) := by decide +kernel
/-! CapitalCaseModel.whoseBits:(I)I -/
noncomputable def zTr_228 : Nat → Option aF := bn 47 (bn 21 (bn 9 (bn 3 (bn 1 (bl 0 (a_const 0 1)) (bn 2 (bl 1 (a_istore 2 2)) (bl 2 (a_const 0 3)))) (bn 5 (bn 4 (bl 3 (a_istore 3 4)) (bl 4 (a_iload 3 5))) (bn 6 (bl 5 (a_aload 0 6)) (bl 6 (a_getf zG0 zT0 12 3 9))))) (bn 14 (bn 10 (bl 9 (a_aload 0 10)) (bn 13 (bl 10 (a_getf zG0 zT0 12 2 13)) (bl 13 (a_ald zG0 zT0 (true, false) ts0 14)))) (bn 18 (bn 17 (bl 14 (a_icmp 3 100 17)) (bl 17 (a_const 1 18))) (bn 20 (bl 18 (a_istore 4 20)) (bl 20 (a_const 0 21)))))) (bn 35 (bn 26 (bn 23 (bl 21 (a_istore 5 23)) (bn 25 (bl 23 (a_iload 5 25)) (bl 25 (a_iload 1 26)))) (bn 30 (bn 29 (bl 26 (a_icmp 3 83 29)) (bl 29 (a_aload 0 30))) (bn 33 (bl 30 (a_getf zG0 zT0 12 1 33)) (bl 33 (a_const 80 35))))) (bn 40 (bn 38 (bn 37 (bl 35 (a_const 8 37)) (bl 37 (a_iload 3 38))) (bn 39 (bl 38 (a_bin fmul 39)) (bl 39 (a_bin fadd 40)))) (bn 44 (bn 41 (bl 40 (a_aload 0 41)) (bl 41 (a_getf zG0 zT0 12 65 44))) (bn 46 (bl 44 (a_iload 5 46)) (bl 46 (a_ald zG0 zT0 (true, false) ts0 47))))))) (bn 74 (bn 59 (bn 50 (bn 48 (bl 47 (a_bin fadd 48)) (bn 49 (bl 48 (a_ald zG0 zT0 (true, false) ts0 49)) (bl 49 (a_aload 0 50)))) (bn 55 (bn 53 (bl 50 (a_getf zG0 zT0 12 66 53)) (bl 53 (a_iload 5 55))) (bn 56 (bl 55 (a_ald zG0 zT0 (true, false) ts0 56)) (bl 56 (a_icmp 2 63 59))))) (bn 65 (bn 63 (bn 60 (bl 59 (a_const 1 60)) (bl 60 (a_goto 64))) (bn 64 (bl 63 (a_const 0 64)) (bl 64 (a_aload 0 65)))) (bn 70 (bn 68 (bl 65 (a_getf zG0 zT0 12 67 68)) (bl 68 (a_iload 5 70))) (bn 71 (bl 70 (a_ald zG0 zT0 (true, false) ts12 71)) (bl 71 (a_icmp 0 77 74)))))) (bn 89 (bn 80 (bn 75 (bl 74 (a_const 0 75)) (bn 77 (bl 75 (a_istore 4 77)) (bl 77 (a_iinc 5 1 80)))) (bn 85 (bn 83 (bl 80 (a_goto 23)) (bl 83 (a_iload 4 85))) (bn 88 (bl 85 (a_if 0 94 88)) (bl 88 (a_iload 2 89))))) (bn 93 (bn 91 (bn 90 (bl 89 (a_const 1 90)) (bl 90 (a_iload 3 91))) (bn 92 (bl 91 (a_bin fshl 92)) (bl 92 (a_bin fany 93)))) (bn 97 (bn 94 (bl 93 (a_istore 2 94)) (bl 94 (a_iinc 3 1 97))) (bn 100 (bl 97 (a_goto 4)) (bl 100 (a_iload 2 101)))))))
set_option maxRecDepth 100000 in
set_option maxHeartbeats 4000000 in
theorem zTo_228 {pre : zPre} {post : zPost} (H : zTieC pre post) {d : Nat × Nat × Nat} (hd : zLe (0, 0, 0) d) : aTr zG0 zT0 zInv (true, false) PZ zbd pre post d prog_14_method_108_code "CapitalCaseModel" zTr_228 := (xB_n (xB_n (xB_n (xB_n (xB_n (xB_l ⟨_, zs_iconst (v := 0) em201_0 (by decide +kernel), as_const (by decide +kernel)⟩) (xB_n (xB_l ⟨_, zs_istore_n em201_1, as_istore⟩) (xB_l ⟨_, zs_iconst (v := 0) em201_2 (by decide +kernel), as_const (by decide +kernel)⟩))) (xB_n (xB_n (xB_l ⟨_, zs_istore_n em201_3, as_istore⟩) (xB_l ⟨_, zs_iload_n em201_4, as_iload⟩)) (xB_n (xB_l ⟨_, zs_aload_n em201_5, as_aload⟩) (xB_l ⟨_, zs_getf (T := TX12) (M := 70) (ci := 12) (j := 3) em201_6 rfl inX12 (by decide) wd_1303 ((congrFun xo_12 43).trans rfl), as_getf zTie⟩)))) (xB_n (xB_n (xB_l ⟨_, zs_aload_n em201_9, as_aload⟩) (xB_n (xB_l ⟨_, zs_getf (T := TX12) (M := 70) (ci := 12) (j := 2) em201_10 rfl inX12 (by decide) wd_1299 ((congrFun xo_12 230).trans rfl), as_getf zTie⟩) (xB_l ⟨_, zs_iald em201_13, ag_iald⟩))) (xB_n (xB_n (xB_l ⟨_, zs_icmpge em201_14 (t := 100) (by decide), as_icmp⟩) (xB_l ⟨_, zs_iconst (v := 1) em201_17 (by decide +kernel), as_const (by decide +kernel)⟩)) (xB_n (xB_l ⟨_, zs_istore em201_18, as_istore⟩) (xB_l ⟨_, zs_iconst (v := 0) em201_20 (by decide +kernel), as_const (by decide +kernel)⟩))))) (xB_n (xB_n (xB_n (xB_l ⟨_, zs_istore em201_21, as_istore⟩) (xB_n (xB_l ⟨_, zs_iload em201_23, as_iload⟩) (xB_l ⟨_, zs_iload_n em201_25, as_iload⟩))) (xB_n (xB_n (xB_l ⟨_, zs_icmpge em201_26 (t := 83) (by decide), as_icmp⟩) (xB_l ⟨_, zs_aload_n em201_29, as_aload⟩)) (xB_n (xB_l ⟨_, zs_getf (T := TX12) (M := 70) (ci := 12) (j := 1) em201_30 rfl inX12 (by decide) wd_1331 ((congrFun xo_12 113).trans rfl), as_getf zTie⟩) (xB_l ⟨_, zs_bipush (v := 80) em201_33 (by decide +kernel), as_const (by decide +kernel)⟩)))) (xB_n (xB_n (xB_n (xB_l ⟨_, zs_bipush (v := 8) em201_35 (by decide +kernel), as_const (by decide +kernel)⟩) (xB_l ⟨_, zs_iload_n em201_37, as_iload⟩)) (xB_n (xB_l ⟨_, zs_imul em201_38, as_bin fmul_ok⟩) (xB_l ⟨_, zs_iadd em201_39, as_bin fadd_ok⟩))) (xB_n (xB_n (xB_l ⟨_, zs_aload_n em201_40, as_aload⟩) (xB_l ⟨_, zs_getf (T := TX12) (M := 70) (ci := 12) (j := 65) em201_41 rfl inX12 (by decide) wd_1346 ((congrFun xo_12 134).trans rfl), as_getf zTie⟩)) (xB_n (xB_l ⟨_, zs_iload em201_44, as_iload⟩) (xB_l ⟨_, zs_iald em201_46, ag_iald⟩)))))) (xB_n (xB_n (xB_n (xB_n (xB_l ⟨_, zs_iadd em201_47, as_bin fadd_ok⟩) (xB_n (xB_l ⟨_, zs_iald em201_48, ag_iald⟩) (xB_l ⟨_, zs_aload_n em201_49, as_aload⟩))) (xB_n (xB_n (xB_l ⟨_, zs_getf (T := TX12) (M := 70) (ci := 12) (j := 66) em201_50 rfl inX12 (by decide) wd_1347 ((congrFun xo_12 137).trans rfl), as_getf zTie⟩) (xB_l ⟨_, zs_iload em201_53, as_iload⟩)) (xB_n (xB_l ⟨_, zs_iald em201_55, ag_iald⟩) (xB_l ⟨_, zs_icmplt em201_56 (t := 63) (by decide), as_icmp⟩)))) (xB_n (xB_n (xB_n (xB_l ⟨_, zs_iconst (v := 1) em201_59 (by decide +kernel), as_const (by decide +kernel)⟩) (xB_l ⟨_, zs_goto em201_60 (t := 64) (by decide), as_goto⟩)) (xB_n (xB_l ⟨_, zs_iconst (v := 0) em201_63 (by decide +kernel), as_const (by decide +kernel)⟩) (xB_l ⟨_, zs_aload_n em201_64, as_aload⟩))) (xB_n (xB_n (xB_l ⟨_, zs_getf (T := TX12) (M := 70) (ci := 12) (j := 67) em201_65 rfl inX12 (by decide) wd_1348 ((congrFun xo_12 140).trans rfl), as_getf zTie⟩) (xB_l ⟨_, zs_iload em201_68, as_iload⟩)) (xB_n (xB_l ⟨_, zs_bald em201_70, ag_bald⟩) (xB_l ⟨_, zs_icmpeq em201_71 (t := 77) (by decide), as_icmp⟩))))) (xB_n (xB_n (xB_n (xB_l ⟨_, zs_iconst (v := 0) em201_74 (by decide +kernel), as_const (by decide +kernel)⟩) (xB_n (xB_l ⟨_, zs_istore em201_75, as_istore⟩) (xB_l ⟨_, zs_iinc (k := 1) em201_77 (by decide +kernel), as_iinc (by decide +kernel)⟩))) (xB_n (xB_n (xB_l ⟨_, zs_goto em201_80 (t := 23) (by decide), as_goto⟩) (xB_l ⟨_, zs_iload em201_83, as_iload⟩)) (xB_n (xB_l ⟨_, zs_ifeq em201_85 (t := 94) (by decide), as_if⟩) (xB_l ⟨_, zs_iload_n em201_88, as_iload⟩)))) (xB_n (xB_n (xB_n (xB_l ⟨_, zs_iconst (v := 1) em201_89 (by decide +kernel), as_const (by decide +kernel)⟩) (xB_l ⟨_, zs_iload_n em201_90, as_iload⟩)) (xB_n (xB_l ⟨_, zs_ishl em201_91, as_bin fshl_ok⟩) (xB_l ⟨_, zs_ior em201_92, as_bin fany_ok⟩))) (xB_n (xB_n (xB_l ⟨_, zs_istore_n em201_93, as_istore⟩) (xB_l ⟨_, zs_iinc (k := 1) em201_94 (by decide +kernel), as_iinc (by decide +kernel)⟩)) (xB_n (xB_l ⟨_, zs_goto em201_97 (t := 4) (by decide), as_goto⟩) (xB_l ⟨_, zs_iload_n em201_100, as_iload⟩)))))))
set_option maxRecDepth 100000 in
set_option maxHeartbeats 4000000 in
theorem zM_228 : zOKa 228 zc_228 := z_auto (cuts := [(4, ([(0, 0), (0, 20), (0, 1), ((-2147483648), 2147483647), (0, 5)], [], [some (.inr (.inl (0, 75))), some (.inl (1, 0)), some (.inl (3, 0)), some (.inl (4, 0)), none, none], [], [(22, 2, 0)], (0, 0)), [(0, 2), (0, 3)], 131, [0, 0, 0, 0, (-22)]), (23, ([(0, 0), (0, 20), (0, 1), ((-2147483648), 2147483647), (0, 4), (0, 1), (0, 20)], [], [some (.inr (.inl (0, 75))), some (.inl (1, 0)), some (.inl (3, 0)), some (.inl (4, 0)), some (.inl (5, 0)), some (.inl (6, 0))], [], [(22, 2, 0)], (0, 0)), [(0, 2), (0, 3), (0, 4), (0, 5)], 130, [0, 0, 0, 0, (-22), 0, (-1)])]) (rets := [(101, 1)]) (fuel := 1000) rfl rfl (by decide) (xrt_ok (xR_c (Or.inl ⟨rfl, em201_101, rfl⟩) (xR_n))) (fun _ _ H _ hd => zTo_228 H hd) (by decide +kernel)
theorem em202_0 : decode prog_14_method_102_code 0 = .ok (.aload_n 0, 1) := by decide +kernel
theorem em202_1 : decode prog_14_method_102_code 1 = .ok (.iload_n 1, 1) := by decide +kernel
theorem em202_2 : decode prog_14_method_102_code 2 = .ok (.invokevirtual 405, 3) := by decide +kernel
theorem em202_5 : decode prog_14_method_102_code 5 = .ok (.ifCond .eq 10, 3) := by decide +kernel
theorem em202_8 : decode prog_14_method_102_code 8 = .ok (.iload_n 2, 1) := by decide +kernel
theorem em202_9 : decode prog_14_method_102_code 9 = .ok (.invokestatic 408, 3) := by decide +kernel
theorem em202_12 : decode prog_14_method_102_code 12 = .ok (.ifCond .ne 5, 3) := by decide +kernel
theorem em202_15 : decode prog_14_method_102_code 15 = .ok (.iconst (-1), 1) := by decide +kernel
theorem em202_16 : decode prog_14_method_102_code 16 = .ok (.ireturn, 1) := by decide +kernel
theorem em202_17 : decode prog_14_method_102_code 17 = .ok (.aload_n 0, 1) := by decide +kernel
theorem em202_18 : decode prog_14_method_102_code 18 = .ok (.invokevirtual 411, 3) := by decide +kernel
theorem em202_21 : decode prog_14_method_102_code 21 = .ok (.aload_n 0, 1) := by decide +kernel
theorem em202_22 : decode prog_14_method_102_code 22 = .ok (.iconst 1, 1) := by decide +kernel
theorem em202_23 : decode prog_14_method_102_code 23 = .ok (.putfield 331, 3) := by decide +kernel
theorem em202_26 : decode prog_14_method_102_code 26 = .ok (.iconst 1, 1) := by decide +kernel
theorem em202_27 : decode prog_14_method_102_code 27 = .ok (.istore_n 3, 1) := by decide +kernel
theorem em202_28 : decode prog_14_method_102_code 28 = .ok (.iload_n 3, 1) := by decide +kernel
theorem em202_29 : decode prog_14_method_102_code 29 = .ok (.sipush 200, 3) := by decide +kernel
theorem em202_32 : decode prog_14_method_102_code 32 = .ok (.if_icmp .gt 29, 3) := by decide +kernel
theorem em202_35 : decode prog_14_method_102_code 35 = .ok (.aload_n 0, 1) := by decide +kernel
theorem em202_36 : decode prog_14_method_102_code 36 = .ok (.invokevirtual 402, 3) := by decide +kernel
theorem em202_39 : decode prog_14_method_102_code 39 = .ok (.aload_n 0, 1) := by decide +kernel
theorem em202_40 : decode prog_14_method_102_code 40 = .ok (.getfield 119, 3) := by decide +kernel
theorem em202_43 : decode prog_14_method_102_code 43 = .ok (.bipush 8, 2) := by decide +kernel
theorem em202_45 : decode prog_14_method_102_code 45 = .ok (.iload_n 1, 1) := by decide +kernel
theorem em202_46 : decode prog_14_method_102_code 46 = .ok (.imul, 1) := by decide +kernel
theorem em202_47 : decode prog_14_method_102_code 47 = .ok (.iload_n 2, 1) := by decide +kernel
theorem em202_48 : decode prog_14_method_102_code 48 = .ok (.iadd, 1) := by decide +kernel
theorem em202_49 : decode prog_14_method_102_code 49 = .ok (.baload, 1) := by decide +kernel
theorem em202_50 : decode prog_14_method_102_code 50 = .ok (.ifCond .eq 5, 3) := by decide +kernel
theorem em202_53 : decode prog_14_method_102_code 53 = .ok (.iload_n 3, 1) := by decide +kernel
theorem em202_54 : decode prog_14_method_102_code 54 = .ok (.ireturn, 1) := by decide +kernel
theorem em202_55 : decode prog_14_method_102_code 55 = .ok (.iinc 3 1, 3) := by decide +kernel
theorem em202_58 : decode prog_14_method_102_code 58 = .ok (.goto (-30), 3) := by decide +kernel
theorem em202_61 : decode prog_14_method_102_code 61 = .ok (.bipush (-2), 2) := by decide +kernel
theorem em202_63 : decode prog_14_method_102_code 63 = .ok (.ireturn, 1) := by decide +kernel
/-! CapitalCaseModel.wornOut:(II)I -/
noncomputable def zTr_229 : Nat → Option aF := bn 29 (bn 17 (bn 8 (bn 2 (bn 1 (bl 0 (a_aload 0 1)) (bl 1 (a_iload 1 2))) (bn 5 (bl 2 (a_invV zG0 zprot (true, false) zc_177 (zbd 177) (8, 0, 0) 12 2 5)) (bl 5 (a_if 0 15 8)))) (bn 12 (bn 9 (bl 8 (a_iload 2 9)) (bl 9 (a_inv zG0 zprot (true, false) zc_180 (zbd 180) (8, 0, 0) 1 12))) (bn 15 (bl 12 (a_if 1 17 15)) (bl 15 (a_const (-1) 16))))) (bn 23 (bn 21 (bn 18 (bl 17 (a_aload 0 18)) (bl 18 (a_invV zG0 zprot (true, false) zc_136 (zbd 136) (8, 0, 0) 12 1 21))) (bn 22 (bl 21 (a_aload 0 22)) (bl 22 (a_const 1 23)))) (bn 27 (bn 26 (bl 23 (a_puti zG0 zT0 zprot 12 7 1 26)) (bl 26 (a_const 1 27))) (bn 28 (bl 27 (a_istore 3 28)) (bl 28 (a_iload 3 29)))))) (bn 46 (bn 39 (bn 35 (bn 32 (bl 29 (a_const 200 32)) (bl 32 (a_icmp 4 61 35))) (bn 36 (bl 35 (a_aload 0 36)) (bl 36 (a_invV zG0 zprot (true, false) zc_138 (zbd 138) (8, 0, 0) 12 1 39)))) (bn 43 (bn 40 (bl 39 (a_aload 0 40)) (bl 40 (a_getf zG0 zT0 12 60 43))) (bn 45 (bl 43 (a_const 8 45)) (bl 45 (a_iload 1 46))))) (bn 50 (bn 48 (bn 47 (bl 46 (a_bin fmul 47)) (bl 47 (a_iload 2 48))) (bn 49 (bl 48 (a_bin fadd 49)) (bl 49 (a_ald zG0 zT0 (true, false) ts12 50)))) (bn 55 (bn 53 (bl 50 (a_if 0 55 53)) (bl 53 (a_iload 3 54))) (bn 58 (bl 55 (a_iinc 3 1 58)) (bn 61 (bl 58 (a_goto 28)) (bl 61 (a_const (-2) 63)))))))
set_option maxRecDepth 100000 in
set_option maxHeartbeats 4000000 in
theorem zTo_229 {pre : zPre} {post : zPost} (H : zTieC pre post) {d : Nat × Nat × Nat} (hd : zLe (8, 0, 0) d) : aTr zG0 zT0 zInv (true, false) PZ zbd pre post d prog_14_method_102_code "CapitalCaseModel" zTr_229 := (xB_n (xB_n (xB_n (xB_n (xB_n (xB_l ⟨_, zs_aload_n em202_0, as_aload⟩) (xB_l ⟨_, zs_iload_n em202_1, as_iload⟩)) (xB_n (xB_l ⟨_, zs_invV (T := TX12) em202_2 zl_177 rfl wd_1625 wd_1627 wd_72 ((congrFun xo_12 405).trans rfl) xm_151, ag_invV H zh_177 hd (by decide)⟩) (xB_l ⟨_, zs_ifeq em202_5 (t := 15) (by decide), as_if⟩))) (xB_n (xB_n (xB_l ⟨_, zs_iload_n em202_8, as_iload⟩) (xB_l ⟨_, zs_invS em202_9 zl_180 wd_1632 wd_1633 ((congrFun xo_12 408).trans rfl) xm_154, ag_inv H zh_180 hd (by decide)⟩)) (xB_n (xB_l ⟨_, zs_ifne em202_12 (t := 17) (by decide), as_if⟩) (xB_l ⟨_, zs_iconst (v := (-1)) em202_15 (by decide +kernel), as_const (by decide +kernel)⟩)))) (xB_n (xB_n (xB_n (xB_l ⟨_, zs_aload_n em202_17, as_aload⟩) (xB_l ⟨_, zs_invV (T := TX12) em202_18 zl_136 rfl wd_1635 wd_1637 wd_73 ((congrFun xo_12 411).trans rfl) xm_129, ag_invV H zh_136 hd (by decide)⟩)) (xB_n (xB_l ⟨_, zs_aload_n em202_21, as_aload⟩) (xB_l ⟨_, zs_iconst (v := 1) em202_22 (by decide +kernel), as_const (by decide +kernel)⟩))) (xB_n (xB_n (xB_l ⟨_, zs_puti zInj0 (T := TX12) (M := 70) (ty := tyX12) (ci := 12) (j := 7) (kd := 1) em202_23 rfl inX12 tyX12_ok nmX12 (by decide) wd_1334 (Or.inr ⟨rfl, rfl⟩) rfl ((congrFun xo_12 331).trans rfl), ag_puti1⟩) (xB_l ⟨_, zs_iconst (v := 1) em202_26 (by decide +kernel), as_const (by decide +kernel)⟩)) (xB_n (xB_l ⟨_, zs_istore_n em202_27, as_istore⟩) (xB_l ⟨_, zs_iload_n em202_28, as_iload⟩))))) (xB_n (xB_n (xB_n (xB_n (xB_l ⟨_, zs_sipush (v := 200) em202_29 (by decide +kernel), as_const (by decide +kernel)⟩) (xB_l ⟨_, zs_icmpgt em202_32 (t := 61) (by decide), as_icmp⟩)) (xB_n (xB_l ⟨_, zs_aload_n em202_35, as_aload⟩) (xB_l ⟨_, zs_invV (T := TX12) em202_36 zl_138 rfl wd_1758 wd_1760 wd_94 ((congrFun xo_12 402).trans rfl) xm_131, ag_invV H zh_138 hd (by decide)⟩))) (xB_n (xB_n (xB_l ⟨_, zs_aload_n em202_39, as_aload⟩) (xB_l ⟨_, zs_getf (T := TX12) (M := 70) (ci := 12) (j := 60) em202_40 rfl inX12 (by decide) wd_1337 ((congrFun xo_12 119).trans rfl), as_getf zTie⟩)) (xB_n (xB_l ⟨_, zs_bipush (v := 8) em202_43 (by decide +kernel), as_const (by decide +kernel)⟩) (xB_l ⟨_, zs_iload_n em202_45, as_iload⟩)))) (xB_n (xB_n (xB_n (xB_l ⟨_, zs_imul em202_46, as_bin fmul_ok⟩) (xB_l ⟨_, zs_iload_n em202_47, as_iload⟩)) (xB_n (xB_l ⟨_, zs_iadd em202_48, as_bin fadd_ok⟩) (xB_l ⟨_, zs_bald em202_49, ag_bald⟩))) (xB_n (xB_n (xB_l ⟨_, zs_ifeq em202_50 (t := 55) (by decide), as_if⟩) (xB_l ⟨_, zs_iload_n em202_53, as_iload⟩)) (xB_n (xB_l ⟨_, zs_iinc (k := 1) em202_55 (by decide +kernel), as_iinc (by decide +kernel)⟩) (xB_n (xB_l ⟨_, zs_goto em202_58 (t := 28) (by decide), as_goto⟩) (xB_l ⟨_, zs_bipush (v := (-2)) em202_61 (by decide +kernel), as_const (by decide +kernel)⟩)))))))
set_option maxRecDepth 100000 in
set_option maxHeartbeats 4000000 in
theorem zM_229 : zOKa 229 zc_229 := z_auto (cuts := [(28, ([(0, 0), (0, 4), (0, 7), (0, 1), (1, 201)], [], [some (.inr (.inl (0, 75))), some (.inl (1, 0)), some (.inl (2, 0)), some (.inl (4, 0))], [], [(22, 3, 0)], (0, 0)), [(0, 3)], 201, [0, 0, 0, 0, (-1)])]) (rets := [(16, 1), (54, 1), (63, 1)]) (fuel := 1000) rfl rfl (by decide) (xrt_ok (xR_c (Or.inl ⟨rfl, em202_16, rfl⟩) (xR_c (Or.inl ⟨rfl, em202_54, rfl⟩) (xR_c (Or.inl ⟨rfl, em202_63, rfl⟩) (xR_n))))) (fun _ _ H _ hd => zTo_229 H hd) (by decide +kernel)
theorem em203_0 : decode prog_14_method_89_code 0 = .ok (.aload_n 0, 1) := by decide +kernel
theorem em203_1 : decode prog_14_method_89_code 1 = .ok (.iload_n 1, 1) := by decide +kernel
theorem em203_2 : decode prog_14_method_89_code 2 = .ok (.invokevirtual 405, 3) := by decide +kernel
theorem em203_5 : decode prog_14_method_89_code 5 = .ok (.ifCond .eq 10, 3) := by decide +kernel
theorem em203_8 : decode prog_14_method_89_code 8 = .ok (.iload_n 2, 1) := by decide +kernel
theorem em203_9 : decode prog_14_method_89_code 9 = .ok (.invokestatic 408, 3) := by decide +kernel
theorem em203_12 : decode prog_14_method_89_code 12 = .ok (.ifCond .ne 5, 3) := by decide +kernel
theorem em203_15 : decode prog_14_method_89_code 15 = .ok (.iconst (-1), 1) := by decide +kernel
theorem em203_16 : decode prog_14_method_89_code 16 = .ok (.ireturn, 1) := by decide +kernel
theorem em203_17 : decode prog_14_method_89_code 17 = .ok (.aload_n 0, 1) := by decide +kernel
theorem em203_18 : decode prog_14_method_89_code 18 = .ok (.invokevirtual 411, 3) := by decide +kernel
theorem em203_21 : decode prog_14_method_89_code 21 = .ok (.aload_n 0, 1) := by decide +kernel
theorem em203_22 : decode prog_14_method_89_code 22 = .ok (.invokevirtual 451, 3) := by decide +kernel
theorem em203_25 : decode prog_14_method_89_code 25 = .ok (.aload_n 0, 1) := by decide +kernel
theorem em203_26 : decode prog_14_method_89_code 26 = .ok (.getfield 442, 3) := by decide +kernel
theorem em203_29 : decode prog_14_method_89_code 29 = .ok (.istore_n 3, 1) := by decide +kernel
theorem em203_30 : decode prog_14_method_89_code 30 = .ok (.aload_n 0, 1) := by decide +kernel
theorem em203_31 : decode prog_14_method_89_code 31 = .ok (.invokevirtual 411, 3) := by decide +kernel
theorem em203_34 : decode prog_14_method_89_code 34 = .ok (.aload_n 0, 1) := by decide +kernel
theorem em203_35 : decode prog_14_method_89_code 35 = .ok (.getfield 116, 3) := by decide +kernel
theorem em203_38 : decode prog_14_method_89_code 38 = .ok (.bipush 8, 2) := by decide +kernel
theorem em203_40 : decode prog_14_method_89_code 40 = .ok (.iload_n 1, 1) := by decide +kernel
theorem em203_41 : decode prog_14_method_89_code 41 = .ok (.imul, 1) := by decide +kernel
theorem em203_42 : decode prog_14_method_89_code 42 = .ok (.iload_n 2, 1) := by decide +kernel
theorem em203_43 : decode prog_14_method_89_code 43 = .ok (.iadd, 1) := by decide +kernel
theorem em203_44 : decode prog_14_method_89_code 44 = .ok (.dup2, 1) := by decide +kernel
theorem em203_45 : decode prog_14_method_89_code 45 = .ok (.iaload, 1) := by decide +kernel
theorem em203_46 : decode prog_14_method_89_code 46 = .ok (.iconst 1, 1) := by decide +kernel
theorem em203_47 : decode prog_14_method_89_code 47 = .ok (.iadd, 1) := by decide +kernel
theorem em203_48 : decode prog_14_method_89_code 48 = .ok (.iastore, 1) := by decide +kernel
theorem em203_49 : decode prog_14_method_89_code 49 = .ok (.aload_n 0, 1) := by decide +kernel
theorem em203_50 : decode prog_14_method_89_code 50 = .ok (.invokevirtual 451, 3) := by decide +kernel
theorem em203_53 : decode prog_14_method_89_code 53 = .ok (.aload_n 0, 1) := by decide +kernel
theorem em203_54 : decode prog_14_method_89_code 54 = .ok (.getfield 442, 3) := by decide +kernel
theorem em203_57 : decode prog_14_method_89_code 57 = .ok (.iload_n 3, 1) := by decide +kernel
theorem em203_58 : decode prog_14_method_89_code 58 = .ok (.isub, 1) := by decide +kernel
theorem em203_59 : decode prog_14_method_89_code 59 = .ok (.ireturn, 1) := by decide +kernel
/-! CapitalCaseModel.worth:(II)I -/
noncomputable def zTr_230 : Nat → Option aF := bn 34 (bn 17 (bn 8 (bn 2 (bn 1 (bl 0 (a_aload 0 1)) (bl 1 (a_iload 1 2))) (bn 5 (bl 2 (a_invV zG0 zprot (true, false) zc_177 (zbd 177) (11, 0, 0) 12 2 5)) (bl 5 (a_if 0 15 8)))) (bn 12 (bn 9 (bl 8 (a_iload 2 9)) (bl 9 (a_inv zG0 zprot (true, false) zc_180 (zbd 180) (11, 0, 0) 1 12))) (bn 15 (bl 12 (a_if 1 17 15)) (bl 15 (a_const (-1) 16))))) (bn 25 (bn 21 (bn 18 (bl 17 (a_aload 0 18)) (bl 18 (a_invV zG0 zprot (true, false) zc_136 (zbd 136) (11, 0, 0) 12 1 21))) (bn 22 (bl 21 (a_aload 0 22)) (bl 22 (a_invV zG0 zprot (true, false) zc_142 (zbd 142) (11, 0, 0) 12 1 25)))) (bn 29 (bn 26 (bl 25 (a_aload 0 26)) (bl 26 (a_getf zG0 zT0 12 62 29))) (bn 30 (bl 29 (a_istore 3 30)) (bn 31 (bl 30 (a_aload 0 31)) (bl 31 (a_invV zG0 zprot (true, false) zc_136 (zbd 136) (11, 0, 0) 12 1 34))))))) (bn 46 (bn 41 (bn 38 (bn 35 (bl 34 (a_aload 0 35)) (bl 35 (a_getf zG0 zT0 12 0 38))) (bn 40 (bl 38 (a_const 8 40)) (bl 40 (a_iload 1 41)))) (bn 43 (bn 42 (bl 41 (a_bin fmul 42)) (bl 42 (a_iload 2 43))) (bn 44 (bl 43 (a_bin fadd 44)) (bn 45 (bl 44 (a_dup2 45)) (bl 45 (a_ald zG0 zT0 (true, false) ts0 46)))))) (bn 50 (bn 48 (bn 47 (bl 46 (a_const 1 47)) (bl 47 (a_bin fadd 48))) (bn 49 (bl 48 (a_ast zG0 zT0 ts0 49)) (bl 49 (a_aload 0 50)))) (bn 54 (bn 53 (bl 50 (a_invV zG0 zprot (true, false) zc_142 (zbd 142) (11, 0, 0) 12 1 53)) (bl 53 (a_aload 0 54))) (bn 57 (bl 54 (a_getf zG0 zT0 12 62 57)) (bn 58 (bl 57 (a_iload 3 58)) (bl 58 (a_bin fsub 59)))))))
set_option maxRecDepth 100000 in
set_option maxHeartbeats 4000000 in
theorem zTo_230 {pre : zPre} {post : zPost} (H : zTieC pre post) {d : Nat × Nat × Nat} (hd : zLe (11, 0, 0) d) : aTr zG0 zT0 zInv (true, false) PZ zbd pre post d prog_14_method_89_code "CapitalCaseModel" zTr_230 := (xB_n (xB_n (xB_n (xB_n (xB_n (xB_l ⟨_, zs_aload_n em203_0, as_aload⟩) (xB_l ⟨_, zs_iload_n em203_1, as_iload⟩)) (xB_n (xB_l ⟨_, zs_invV (T := TX12) em203_2 zl_177 rfl wd_1625 wd_1627 wd_72 ((congrFun xo_12 405).trans rfl) xm_151, ag_invV H zh_177 hd (by decide)⟩) (xB_l ⟨_, zs_ifeq em203_5 (t := 15) (by decide), as_if⟩))) (xB_n (xB_n (xB_l ⟨_, zs_iload_n em203_8, as_iload⟩) (xB_l ⟨_, zs_invS em203_9 zl_180 wd_1632 wd_1633 ((congrFun xo_12 408).trans rfl) xm_154, ag_inv H zh_180 hd (by decide)⟩)) (xB_n (xB_l ⟨_, zs_ifne em203_12 (t := 17) (by decide), as_if⟩) (xB_l ⟨_, zs_iconst (v := (-1)) em203_15 (by decide +kernel), as_const (by decide +kernel)⟩)))) (xB_n (xB_n (xB_n (xB_l ⟨_, zs_aload_n em203_17, as_aload⟩) (xB_l ⟨_, zs_invV (T := TX12) em203_18 zl_136 rfl wd_1635 wd_1637 wd_73 ((congrFun xo_12 411).trans rfl) xm_129, ag_invV H zh_136 hd (by decide)⟩)) (xB_n (xB_l ⟨_, zs_aload_n em203_21, as_aload⟩) (xB_l ⟨_, zs_invV (T := TX12) em203_22 zl_142 rfl wd_1794 wd_1796 wd_99 ((congrFun xo_12 451).trans rfl) xm_135, ag_invV H zh_142 hd (by decide)⟩))) (xB_n (xB_n (xB_l ⟨_, zs_aload_n em203_25, as_aload⟩) (xB_l ⟨_, zs_getf (T := TX12) (M := 70) (ci := 12) (j := 62) em203_26 rfl inX12 (by decide) wd_1343 ((congrFun xo_12 442).trans rfl), as_getf zTie⟩)) (xB_n (xB_l ⟨_, zs_istore_n em203_29, as_istore⟩) (xB_n (xB_l ⟨_, zs_aload_n em203_30, as_aload⟩) (xB_l ⟨_, zs_invV (T := TX12) em203_31 zl_136 rfl wd_1635 wd_1637 wd_73 ((congrFun xo_12 411).trans rfl) xm_129, ag_invV H zh_136 hd (by decide)⟩)))))) (xB_n (xB_n (xB_n (xB_n (xB_l ⟨_, zs_aload_n em203_34, as_aload⟩) (xB_l ⟨_, zs_getf (T := TX12) (M := 70) (ci := 12) (j := 0) em203_35 rfl inX12 (by decide) wd_1332 ((congrFun xo_12 116).trans rfl), as_getf zTie⟩)) (xB_n (xB_l ⟨_, zs_bipush (v := 8) em203_38 (by decide +kernel), as_const (by decide +kernel)⟩) (xB_l ⟨_, zs_iload_n em203_40, as_iload⟩))) (xB_n (xB_n (xB_l ⟨_, zs_imul em203_41, as_bin fmul_ok⟩) (xB_l ⟨_, zs_iload_n em203_42, as_iload⟩)) (xB_n (xB_l ⟨_, zs_iadd em203_43, as_bin fadd_ok⟩) (xB_n (xB_l ⟨_, zs_dup2 em203_44, as_dup2⟩) (xB_l ⟨_, zs_iald em203_45, ag_iald⟩))))) (xB_n (xB_n (xB_n (xB_l ⟨_, zs_iconst (v := 1) em203_46 (by decide +kernel), as_const (by decide +kernel)⟩) (xB_l ⟨_, zs_iadd em203_47, as_bin fadd_ok⟩)) (xB_n (xB_l ⟨_, zs_iast zInj0 em203_48, as_iast zTie⟩) (xB_l ⟨_, zs_aload_n em203_49, as_aload⟩))) (xB_n (xB_n (xB_l ⟨_, zs_invV (T := TX12) em203_50 zl_142 rfl wd_1794 wd_1796 wd_99 ((congrFun xo_12 451).trans rfl) xm_135, ag_invV H zh_142 hd (by decide)⟩) (xB_l ⟨_, zs_aload_n em203_53, as_aload⟩)) (xB_n (xB_l ⟨_, zs_getf (T := TX12) (M := 70) (ci := 12) (j := 62) em203_54 rfl inX12 (by decide) wd_1343 ((congrFun xo_12 442).trans rfl), as_getf zTie⟩) (xB_n (xB_l ⟨_, zs_iload_n em203_57, as_iload⟩) (xB_l ⟨_, zs_isub em203_58, as_bin fsub_ok⟩)))))))
set_option maxRecDepth 100000 in
set_option maxHeartbeats 4000000 in
theorem zM_230 : zOKa 230 zc_230 := z_auto (cuts := []) (rets := [(16, 1), (59, 1)]) (fuel := 1000) rfl rfl (by decide) (xrt_ok (xR_c (Or.inl ⟨rfl, em203_16, rfl⟩) (xR_c (Or.inl ⟨rfl, em203_59, rfl⟩) (xR_n)))) (fun _ _ H _ hd => zTo_230 H hd) (by decide +kernel)
theorem em204_0 : decode prog_14_method_16_code 0 = .ok (.aload_n 0, 1) := by decide +kernel
theorem em204_1 : decode prog_14_method_16_code 1 = .ok (.getfield 24, 3) := by decide +kernel
theorem em204_4 : decode prog_14_method_16_code 4 = .ok (.iload_n 2, 1) := by decide +kernel
theorem em204_5 : decode prog_14_method_16_code 5 = .ok (.iaload, 1) := by decide +kernel
theorem em204_6 : decode prog_14_method_16_code 6 = .ok (.istore_n 3, 1) := by decide +kernel
theorem em204_7 : decode prog_14_method_16_code 7 = .ok (.aload_n 0, 1) := by decide +kernel
theorem em204_8 : decode prog_14_method_16_code 8 = .ok (.getfield 200, 3) := by decide +kernel
theorem em204_11 : decode prog_14_method_16_code 11 = .ok (.ifCond .gt 34, 3) := by decide +kernel
theorem em204_14 : decode prog_14_method_16_code 14 = .ok (.aload_n 0, 1) := by decide +kernel
theorem em204_15 : decode prog_14_method_16_code 15 = .ok (.getfield 209, 3) := by decide +kernel
theorem em204_18 : decode prog_14_method_16_code 18 = .ok (.ifCond .eq 28, 3) := by decide +kernel
theorem em204_21 : decode prog_14_method_16_code 21 = .ok (.iload_n 3, 1) := by decide +kernel
theorem em204_22 : decode prog_14_method_16_code 22 = .ok (.aload_n 0, 1) := by decide +kernel
theorem em204_23 : decode prog_14_method_16_code 23 = .ok (.getfield 212, 3) := by decide +kernel
theorem em204_26 : decode prog_14_method_16_code 26 = .ok (.if_icmp .gt 19, 3) := by decide +kernel
theorem em204_29 : decode prog_14_method_16_code 29 = .ok (.iload_n 3, 1) := by decide +kernel
theorem em204_30 : decode prog_14_method_16_code 30 = .ok (.aload_n 0, 1) := by decide +kernel
theorem em204_31 : decode prog_14_method_16_code 31 = .ok (.getfield 212, 3) := by decide +kernel
theorem em204_34 : decode prog_14_method_16_code 34 = .ok (.if_icmp .ne 12, 3) := by decide +kernel
theorem em204_37 : decode prog_14_method_16_code 37 = .ok (.iload_n 1, 1) := by decide +kernel
theorem em204_38 : decode prog_14_method_16_code 38 = .ok (.aload_n 0, 1) := by decide +kernel
theorem em204_39 : decode prog_14_method_16_code 39 = .ok (.getfield 209, 3) := by decide +kernel
theorem em204_42 : decode prog_14_method_16_code 42 = .ok (.if_icmp .lt 4, 3) := by decide +kernel
theorem em204_45 : decode prog_14_method_16_code 45 = .ok (.return_, 1) := by decide +kernel
theorem em204_46 : decode prog_14_method_16_code 46 = .ok (.aload_n 0, 1) := by decide +kernel
theorem em204_47 : decode prog_14_method_16_code 47 = .ok (.iload_n 1, 1) := by decide +kernel
theorem em204_48 : decode prog_14_method_16_code 48 = .ok (.putfield 209, 3) := by decide +kernel
theorem em204_51 : decode prog_14_method_16_code 51 = .ok (.aload_n 0, 1) := by decide +kernel
theorem em204_52 : decode prog_14_method_16_code 52 = .ok (.iload_n 3, 1) := by decide +kernel
theorem em204_53 : decode prog_14_method_16_code 53 = .ok (.putfield 212, 3) := by decide +kernel
theorem em204_56 : decode prog_14_method_16_code 56 = .ok (.return_, 1) := by decide +kernel
/-! CapitalCaseModel.wrong:(II)V -/
noncomputable def zTr_231 : Nat → Option aF := bn 26 (bn 11 (bn 5 (bn 1 (bl 0 (a_aload 0 1)) (bn 4 (bl 1 (a_getf zG0 zT0 12 20 4)) (bl 4 (a_iload 2 5)))) (bn 7 (bn 6 (bl 5 (a_ald zG0 zT0 (false, false) ts0 6)) (bl 6 (a_istore 3 7))) (bn 8 (bl 7 (a_aload 0 8)) (bl 8 (a_getf zG0 zT0 12 27 11))))) (bn 18 (bn 14 (bl 11 (a_if 4 45 14)) (bn 15 (bl 14 (a_aload 0 15)) (bl 15 (a_getf zG0 zT0 12 29 18)))) (bn 22 (bn 21 (bl 18 (a_if 0 46 21)) (bl 21 (a_iload 3 22))) (bn 23 (bl 22 (a_aload 0 23)) (bl 23 (a_getf zG0 zT0 12 30 26)))))) (bn 39 (bn 31 (bn 29 (bl 26 (a_icmp 4 45 29)) (bn 30 (bl 29 (a_iload 3 30)) (bl 30 (a_aload 0 31)))) (bn 37 (bn 34 (bl 31 (a_getf zG0 zT0 12 30 34)) (bl 34 (a_icmp 1 46 37))) (bn 38 (bl 37 (a_iload 1 38)) (bl 38 (a_aload 0 39))))) (bn 48 (bn 46 (bn 42 (bl 39 (a_getf zG0 zT0 12 29 42)) (bl 42 (a_icmp 2 46 45))) (bn 47 (bl 46 (a_aload 0 47)) (bl 47 (a_iload 1 48)))) (bn 52 (bn 51 (bl 48 (a_puti zG0 zT0 zprot 12 29 0 51)) (bl 51 (a_aload 0 52))) (bn 53 (bl 52 (a_iload 3 53)) (bl 53 (a_puti zG0 zT0 zprot 12 30 0 56))))))
set_option maxRecDepth 100000 in
set_option maxHeartbeats 4000000 in
theorem zTo_231 {pre : zPre} {post : zPost} (H : zTieC pre post) {d : Nat × Nat × Nat} (hd : zLe (0, 0, 0) d) : aTr zG0 zT0 zInv (false, false) PZ zbd pre post d prog_14_method_16_code "CapitalCaseModel" zTr_231 := (xB_n (xB_n (xB_n (xB_n (xB_l ⟨_, zs_aload_n em204_0, as_aload⟩) (xB_n (xB_l ⟨_, zs_getf (T := TX12) (M := 70) (ci := 12) (j := 20) em204_1 rfl inX12 (by decide) wd_1287 ((congrFun xo_12 24).trans rfl), as_getf zTie⟩) (xB_l ⟨_, zs_iload_n em204_4, as_iload⟩))) (xB_n (xB_n (xB_l ⟨_, zs_iald em204_5, ag_iald⟩) (xB_l ⟨_, zs_istore_n em204_6, as_istore⟩)) (xB_n (xB_l ⟨_, zs_aload_n em204_7, as_aload⟩) (xB_l ⟨_, zs_getf (T := TX12) (M := 70) (ci := 12) (j := 27) em204_8 rfl inX12 (by decide) wd_1294 ((congrFun xo_12 200).trans rfl), as_getf zTie⟩)))) (xB_n (xB_n (xB_l ⟨_, zs_ifgt em204_11 (t := 45) (by decide), as_if⟩) (xB_n (xB_l ⟨_, zs_aload_n em204_14, as_aload⟩) (xB_l ⟨_, zs_getf (T := TX12) (M := 70) (ci := 12) (j := 29) em204_15 rfl inX12 (by decide) wd_1296 ((congrFun xo_12 209).trans rfl), as_getf zTie⟩))) (xB_n (xB_n (xB_l ⟨_, zs_ifeq em204_18 (t := 46) (by decide), as_if⟩) (xB_l ⟨_, zs_iload_n em204_21, as_iload⟩)) (xB_n (xB_l ⟨_, zs_aload_n em204_22, as_aload⟩) (xB_l ⟨_, zs_getf (T := TX12) (M := 70) (ci := 12) (j := 30) em204_23 rfl inX12 (by decide) wd_1297 ((congrFun xo_12 212).trans rfl), as_getf zTie⟩))))) (xB_n (xB_n (xB_n (xB_l ⟨_, zs_icmpgt em204_26 (t := 45) (by decide), as_icmp⟩) (xB_n (xB_l ⟨_, zs_iload_n em204_29, as_iload⟩) (xB_l ⟨_, zs_aload_n em204_30, as_aload⟩))) (xB_n (xB_n (xB_l ⟨_, zs_getf (T := TX12) (M := 70) (ci := 12) (j := 30) em204_31 rfl inX12 (by decide) wd_1297 ((congrFun xo_12 212).trans rfl), as_getf zTie⟩) (xB_l ⟨_, zs_icmpne em204_34 (t := 46) (by decide), as_icmp⟩)) (xB_n (xB_l ⟨_, zs_iload_n em204_37, as_iload⟩) (xB_l ⟨_, zs_aload_n em204_38, as_aload⟩)))) (xB_n (xB_n (xB_n (xB_l ⟨_, zs_getf (T := TX12) (M := 70) (ci := 12) (j := 29) em204_39 rfl inX12 (by decide) wd_1296 ((congrFun xo_12 209).trans rfl), as_getf zTie⟩) (xB_l ⟨_, zs_icmplt em204_42 (t := 46) (by decide), as_icmp⟩)) (xB_n (xB_l ⟨_, zs_aload_n em204_46, as_aload⟩) (xB_l ⟨_, zs_iload_n em204_47, as_iload⟩))) (xB_n (xB_n (xB_l ⟨_, zs_puti zInj0 (T := TX12) (M := 70) (ty := tyX12) (ci := 12) (j := 29) (kd := 0) em204_48 rfl inX12 tyX12_ok nmX12 (by decide) wd_1296 (Or.inl ⟨rfl, rfl⟩) rfl ((congrFun xo_12 209).trans rfl), ag_puti0⟩) (xB_l ⟨_, zs_aload_n em204_51, as_aload⟩)) (xB_n (xB_l ⟨_, zs_iload_n em204_52, as_iload⟩) (xB_l ⟨_, zs_puti zInj0 (T := TX12) (M := 70) (ty := tyX12) (ci := 12) (j := 30) (kd := 0) em204_53 rfl inX12 tyX12_ok nmX12 (by decide) wd_1297 (Or.inl ⟨rfl, rfl⟩) rfl ((congrFun xo_12 212).trans rfl), ag_puti0⟩))))))
set_option maxRecDepth 100000 in
set_option maxHeartbeats 4000000 in
theorem zM_231 : zOKa 231 zc_231 := z_auto (cuts := []) (rets := [(45, 3), (56, 3)]) (fuel := 1000) rfl rfl (by decide) (xrt_ok (xR_c (Or.inr (Or.inr (Or.inl ⟨rfl, em204_45, rfl⟩))) (xR_c (Or.inr (Or.inr (Or.inl ⟨rfl, em204_56, rfl⟩))) (xR_n)))) (fun _ _ H _ hd => zTo_231 H hd) (by decide +kernel)
theorem em205_0 : decode prog_14_method_105_code 0 = .ok (.aload_n 0, 1) := by decide +kernel
theorem em205_1 : decode prog_14_method_105_code 1 = .ok (.iload_n 1, 1) := by decide +kernel
theorem em205_2 : decode prog_14_method_105_code 2 = .ok (.invokevirtual 405, 3) := by decide +kernel
theorem em205_5 : decode prog_14_method_105_code 5 = .ok (.ifCond .eq 28, 3) := by decide +kernel
theorem em205_8 : decode prog_14_method_105_code 8 = .ok (.iload_n 2, 1) := by decide +kernel
theorem em205_9 : decode prog_14_method_105_code 9 = .ok (.invokestatic 408, 3) := by decide +kernel
theorem em205_12 : decode prog_14_method_105_code 12 = .ok (.ifCond .eq 21, 3) := by decide +kernel
theorem em205_15 : decode prog_14_method_105_code 15 = .ok (.iload_n 3, 1) := by decide +kernel
theorem em205_16 : decode prog_14_method_105_code 16 = .ok (.invokestatic 430, 3) := by decide +kernel
theorem em205_19 : decode prog_14_method_105_code 19 = .ok (.ifCond .eq 14, 3) := by decide +kernel
theorem em205_22 : decode prog_14_method_105_code 22 = .ok (.iload 4, 2) := by decide +kernel
theorem em205_24 : decode prog_14_method_105_code 24 = .ok (.iconst 1, 1) := by decide +kernel
theorem em205_25 : decode prog_14_method_105_code 25 = .ok (.bipush 20, 2) := by decide +kernel
theorem em205_27 : decode prog_14_method_105_code 27 = .ok (.invokestatic 324, 3) := by decide +kernel
theorem em205_30 : decode prog_14_method_105_code 30 = .ok (.ifCond .ne 5, 3) := by decide +kernel
theorem em205_33 : decode prog_14_method_105_code 33 = .ok (.iconst (-1), 1) := by decide +kernel
theorem em205_34 : decode prog_14_method_105_code 34 = .ok (.ireturn, 1) := by decide +kernel
theorem em205_35 : decode prog_14_method_105_code 35 = .ok (.iconst 0, 1) := by decide +kernel
theorem em205_36 : decode prog_14_method_105_code 36 = .ok (.istore 5, 2) := by decide +kernel
theorem em205_38 : decode prog_14_method_105_code 38 = .ok (.iconst 0, 1) := by decide +kernel
theorem em205_39 : decode prog_14_method_105_code 39 = .ok (.istore 6, 2) := by decide +kernel
theorem em205_41 : decode prog_14_method_105_code 41 = .ok (.iload 6, 2) := by decide +kernel
theorem em205_43 : decode prog_14_method_105_code 43 = .ok (.iload 4, 2) := by decide +kernel
theorem em205_45 : decode prog_14_method_105_code 45 = .ok (.if_icmp .ge 46, 3) := by decide +kernel
theorem em205_48 : decode prog_14_method_105_code 48 = .ok (.aload_n 0, 1) := by decide +kernel
theorem em205_49 : decode prog_14_method_105_code 49 = .ok (.invokevirtual 411, 3) := by decide +kernel
theorem em205_52 : decode prog_14_method_105_code 52 = .ok (.aload_n 0, 1) := by decide +kernel
theorem em205_53 : decode prog_14_method_105_code 53 = .ok (.dup, 1) := by decide +kernel
theorem em205_54 : decode prog_14_method_105_code 54 = .ok (.getfield 328, 3) := by decide +kernel
theorem em205_57 : decode prog_14_method_105_code 57 = .ok (.iload 6, 2) := by decide +kernel
theorem em205_59 : decode prog_14_method_105_code 59 = .ok (.iadd, 1) := by decide +kernel
theorem em205_60 : decode prog_14_method_105_code 60 = .ok (.putfield 328, 3) := by decide +kernel
theorem em205_63 : decode prog_14_method_105_code 63 = .ok (.aload_n 0, 1) := by decide +kernel
theorem em205_64 : decode prog_14_method_105_code 64 = .ok (.iload_n 3, 1) := by decide +kernel
theorem em205_65 : decode prog_14_method_105_code 65 = .ok (.invokevirtual 433, 3) := by decide +kernel
theorem em205_68 : decode prog_14_method_105_code 68 = .ok (.aload_n 0, 1) := by decide +kernel
theorem em205_69 : decode prog_14_method_105_code 69 = .ok (.getfield 116, 3) := by decide +kernel
theorem em205_72 : decode prog_14_method_105_code 72 = .ok (.bipush 8, 2) := by decide +kernel
theorem em205_74 : decode prog_14_method_105_code 74 = .ok (.iload_n 1, 1) := by decide +kernel
theorem em205_75 : decode prog_14_method_105_code 75 = .ok (.imul, 1) := by decide +kernel
theorem em205_76 : decode prog_14_method_105_code 76 = .ok (.iload_n 2, 1) := by decide +kernel
theorem em205_77 : decode prog_14_method_105_code 77 = .ok (.iadd, 1) := by decide +kernel
theorem em205_78 : decode prog_14_method_105_code 78 = .ok (.iaload, 1) := by decide +kernel
theorem em205_79 : decode prog_14_method_105_code 79 = .ok (.ifCond .le 6, 3) := by decide +kernel
theorem em205_82 : decode prog_14_method_105_code 82 = .ok (.iinc 5 1, 3) := by decide +kernel
theorem em205_85 : decode prog_14_method_105_code 85 = .ok (.iinc 6 1, 3) := by decide +kernel
theorem em205_88 : decode prog_14_method_105_code 88 = .ok (.goto (-47), 3) := by decide +kernel
theorem em205_91 : decode prog_14_method_105_code 91 = .ok (.iload 5, 2) := by decide +kernel
theorem em205_93 : decode prog_14_method_105_code 93 = .ok (.ireturn, 1) := by decide +kernel
/-! CapitalCaseModel.year:(IIII)I -/
noncomputable def zTr_232 : Nat → Option aF := bn 48 (bn 24 (bn 9 (bn 2 (bn 1 (bl 0 (a_aload 0 1)) (bl 1 (a_iload 1 2))) (bn 5 (bl 2 (a_invV zG0 zprot (true, false) zc_177 (zbd 177) (9, 0, 0) 12 2 5)) (bn 8 (bl 5 (a_if 0 33 8)) (bl 8 (a_iload 2 9))))) (bn 16 (bn 12 (bl 9 (a_inv zG0 zprot (true, false) zc_180 (zbd 180) (9, 0, 0) 1 12)) (bn 15 (bl 12 (a_if 0 33 15)) (bl 15 (a_iload 3 16)))) (bn 19 (bl 16 (a_inv zG0 zprot (true, false) zc_178 (zbd 178) (9, 0, 0) 1 19)) (bn 22 (bl 19 (a_if 0 33 22)) (bl 22 (a_iload 4 24)))))) (bn 36 (bn 30 (bn 25 (bl 24 (a_const 1 25)) (bn 27 (bl 25 (a_const 20 27)) (bl 27 (a_inv zG0 zprot (true, false) zc_174 (zbd 174) (9, 0, 0) 3 30)))) (bn 33 (bl 30 (a_if 1 35 33)) (bn 35 (bl 33 (a_const (-1) 34)) (bl 35 (a_const 0 36))))) (bn 41 (bn 38 (bl 36 (a_istore 5 38)) (bn 39 (bl 38 (a_const 0 39)) (bl 39 (a_istore 6 41)))) (bn 43 (bl 41 (a_iload 6 43)) (bn 45 (bl 43 (a_iload 4 45)) (bl 45 (a_icmp 3 91 48))))))) (bn 69 (bn 59 (bn 53 (bn 49 (bl 48 (a_aload 0 49)) (bn 52 (bl 49 (a_invV zG0 zprot (true, false) zc_136 (zbd 136) (9, 0, 0) 12 1 52)) (bl 52 (a_aload 0 53)))) (bn 54 (bl 53 (a_dup 54)) (bn 57 (bl 54 (a_getf zG0 zT0 12 6 57)) (bl 57 (a_iload 6 59))))) (bn 64 (bn 60 (bl 59 (a_bin fadd 60)) (bn 63 (bl 60 (a_puti zG0 zT0 zprot 12 6 0 63)) (bl 63 (a_aload 0 64)))) (bn 65 (bl 64 (a_iload 3 65)) (bn 68 (bl 65 (a_invV zG0 zprot (true, false) zc_150 (zbd 150) (9, 0, 0) 12 2 68)) (bl 68 (a_aload 0 69)))))) (bn 78 (bn 75 (bn 72 (bl 69 (a_getf zG0 zT0 12 0 72)) (bn 74 (bl 72 (a_const 8 74)) (bl 74 (a_iload 1 75)))) (bn 76 (bl 75 (a_bin fmul 76)) (bn 77 (bl 76 (a_iload 2 77)) (bl 77 (a_bin fadd 78))))) (bn 85 (bn 79 (bl 78 (a_ald zG0 zT0 (true, false) ts0 79)) (bn 82 (bl 79 (a_if 5 85 82)) (bl 82 (a_iinc 5 1 85)))) (bn 88 (bl 85 (a_iinc 6 1 88)) (bn 91 (bl 88 (a_goto 41)) (bl 91 (a_iload 5 93)))))))
set_option maxRecDepth 100000 in
set_option maxHeartbeats 4000000 in
theorem zTo_232 {pre : zPre} {post : zPost} (H : zTieC pre post) {d : Nat × Nat × Nat} (hd : zLe (9, 0, 0) d) : aTr zG0 zT0 zInv (true, false) PZ zbd pre post d prog_14_method_105_code "CapitalCaseModel" zTr_232 := (xB_n (xB_n (xB_n (xB_n (xB_n (xB_l ⟨_, zs_aload_n em205_0, as_aload⟩) (xB_l ⟨_, zs_iload_n em205_1, as_iload⟩)) (xB_n (xB_l ⟨_, zs_invV (T := TX12) em205_2 zl_177 rfl wd_1625 wd_1627 wd_72 ((congrFun xo_12 405).trans rfl) xm_151, ag_invV H zh_177 hd (by decide)⟩) (xB_n (xB_l ⟨_, zs_ifeq em205_5 (t := 33) (by decide), as_if⟩) (xB_l ⟨_, zs_iload_n em205_8, as_iload⟩)))) (xB_n (xB_n (xB_l ⟨_, zs_invS em205_9 zl_180 wd_1632 wd_1633 ((congrFun xo_12 408).trans rfl) xm_154, ag_inv H zh_180 hd (by decide)⟩) (xB_n (xB_l ⟨_, zs_ifeq em205_12 (t := 33) (by decide), as_if⟩) (xB_l ⟨_, zs_iload_n em205_15, as_iload⟩))) (xB_n (xB_l ⟨_, zs_invS em205_16 zl_178 wd_1751 wd_1752 ((congrFun xo_12 430).trans rfl) xm_152, ag_inv H zh_178 hd (by decide)⟩) (xB_n (xB_l ⟨_, zs_ifeq em205_19 (t := 33) (by decide), as_if⟩) (xB_l ⟨_, zs_iload em205_22, as_iload⟩))))) (xB_n (xB_n (xB_n (xB_l ⟨_, zs_iconst (v := 1) em205_24 (by decide +kernel), as_const (by decide +kernel)⟩) (xB_n (xB_l ⟨_, zs_bipush (v := 20) em205_25 (by decide +kernel), as_const (by decide +kernel)⟩) (xB_l ⟨_, zs_invS em205_27 zl_174 wd_1629 wd_1630 ((congrFun xo_12 324).trans rfl) xm_148, ag_inv H zh_174 hd (by decide)⟩))) (xB_n (xB_l ⟨_, zs_ifne em205_30 (t := 35) (by decide), as_if⟩) (xB_n (xB_l ⟨_, zs_iconst (v := (-1)) em205_33 (by decide +kernel), as_const (by decide +kernel)⟩) (xB_l ⟨_, zs_iconst (v := 0) em205_35 (by decide +kernel), as_const (by decide +kernel)⟩)))) (xB_n (xB_n (xB_l ⟨_, zs_istore em205_36, as_istore⟩) (xB_n (xB_l ⟨_, zs_iconst (v := 0) em205_38 (by decide +kernel), as_const (by decide +kernel)⟩) (xB_l ⟨_, zs_istore em205_39, as_istore⟩))) (xB_n (xB_l ⟨_, zs_iload em205_41, as_iload⟩) (xB_n (xB_l ⟨_, zs_iload em205_43, as_iload⟩) (xB_l ⟨_, zs_icmpge em205_45 (t := 91) (by decide), as_icmp⟩)))))) (xB_n (xB_n (xB_n (xB_n (xB_l ⟨_, zs_aload_n em205_48, as_aload⟩) (xB_n (xB_l ⟨_, zs_invV (T := TX12) em205_49 zl_136 rfl wd_1635 wd_1637 wd_73 ((congrFun xo_12 411).trans rfl) xm_129, ag_invV H zh_136 hd (by decide)⟩) (xB_l ⟨_, zs_aload_n em205_52, as_aload⟩))) (xB_n (xB_l ⟨_, zs_dup em205_53, as_dup⟩) (xB_n (xB_l ⟨_, zs_getf (T := TX12) (M := 70) (ci := 12) (j := 6) em205_54 rfl inX12 (by decide) wd_1333 ((congrFun xo_12 328).trans rfl), as_getf zTie⟩) (xB_l ⟨_, zs_iload em205_57, as_iload⟩)))) (xB_n (xB_n (xB_l ⟨_, zs_iadd em205_59, as_bin fadd_ok⟩) (xB_n (xB_l ⟨_, zs_puti zInj0 (T := TX12) (M := 70) (ty := tyX12) (ci := 12) (j := 6) (kd := 0) em205_60 rfl inX12 tyX12_ok nmX12 (by decide) wd_1333 (Or.inl ⟨rfl, rfl⟩) rfl ((congrFun xo_12 328).trans rfl), ag_puti0⟩) (xB_l ⟨_, zs_aload_n em205_63, as_aload⟩))) (xB_n (xB_l ⟨_, zs_iload_n em205_64, as_iload⟩) (xB_n (xB_l ⟨_, zs_invV (T := TX12) em205_65 zl_150 rfl wd_1754 wd_1756 wd_93 ((congrFun xo_12 433).trans rfl) xm_143, ag_invV H zh_150 hd (by decide)⟩) (xB_l ⟨_, zs_aload_n em205_68, as_aload⟩))))) (xB_n (xB_n (xB_n (xB_l ⟨_, zs_getf (T := TX12) (M := 70) (ci := 12) (j := 0) em205_69 rfl inX12 (by decide) wd_1332 ((congrFun xo_12 116).trans rfl), as_getf zTie⟩) (xB_n (xB_l ⟨_, zs_bipush (v := 8) em205_72 (by decide +kernel), as_const (by decide +kernel)⟩) (xB_l ⟨_, zs_iload_n em205_74, as_iload⟩))) (xB_n (xB_l ⟨_, zs_imul em205_75, as_bin fmul_ok⟩) (xB_n (xB_l ⟨_, zs_iload_n em205_76, as_iload⟩) (xB_l ⟨_, zs_iadd em205_77, as_bin fadd_ok⟩)))) (xB_n (xB_n (xB_l ⟨_, zs_iald em205_78, ag_iald⟩) (xB_n (xB_l ⟨_, zs_ifle em205_79 (t := 85) (by decide), as_if⟩) (xB_l ⟨_, zs_iinc (k := 1) em205_82 (by decide +kernel), as_iinc (by decide +kernel)⟩))) (xB_n (xB_l ⟨_, zs_iinc (k := 1) em205_85 (by decide +kernel), as_iinc (by decide +kernel)⟩) (xB_n (xB_l ⟨_, zs_goto em205_88 (t := 41) (by decide), as_goto⟩) (xB_l ⟨_, zs_iload em205_91, as_iload⟩)))))))
set_option maxRecDepth 100000 in
set_option maxHeartbeats 4000000 in
theorem zM_232 : zOKa 232 zc_232 := z_auto (cuts := [(41, ([(0, 0), (0, 4), (0, 7), (0, 60), (1, 20), (0, 1), ((-2147483648), 2147483647), (0, 20)], [], [some (.inr (.inl (0, 75))), some (.inl (1, 0)), some (.inl (2, 0)), some (.inl (3, 0)), some (.inl (4, 0)), some (.inl (6, 0)), some (.inl (7, 0))], [], [(22, 5, 0)], (0, 0)), [(0, 5), (0, 6)], 20, [0, 0, 0, 0, 0, 0, 0, (-1)])]) (rets := [(34, 1), (93, 1)]) (fuel := 1000) rfl rfl (by decide) (xrt_ok (xR_c (Or.inl ⟨rfl, em205_34, rfl⟩) (xR_c (Or.inl ⟨rfl, em205_93, rfl⟩) (xR_n)))) (fun _ _ H _ hd => zTo_232 H hd) (by decide +kernel)
theorem em206_0 : decode prog_16_method_49_code 0 = .ok (.iload_n 0, 1) := by decide +kernel
theorem em206_1 : decode prog_16_method_49_code 1 = .ok (.iload_n 0, 1) := by decide +kernel
theorem em206_2 : decode prog_16_method_49_code 2 = .ok (.iconst 1, 1) := by decide +kernel
theorem em206_3 : decode prog_16_method_49_code 3 = .ok (.iushr, 1) := by decide +kernel
theorem em206_4 : decode prog_16_method_49_code 4 = .ok (.ldc_w 265, 3) := by decide +kernel
theorem em206_7 : decode prog_16_method_49_code 7 = .ok (.iand, 1) := by decide +kernel
theorem em206_8 : decode prog_16_method_49_code 8 = .ok (.isub, 1) := by decide +kernel
theorem em206_9 : decode prog_16_method_49_code 9 = .ok (.istore_n 0, 1) := by decide +kernel
theorem em206_10 : decode prog_16_method_49_code 10 = .ok (.iload_n 0, 1) := by decide +kernel
theorem em206_11 : decode prog_16_method_49_code 11 = .ok (.ldc_w 266, 3) := by decide +kernel
theorem em206_14 : decode prog_16_method_49_code 14 = .ok (.iand, 1) := by decide +kernel
theorem em206_15 : decode prog_16_method_49_code 15 = .ok (.iload_n 0, 1) := by decide +kernel
theorem em206_16 : decode prog_16_method_49_code 16 = .ok (.iconst 2, 1) := by decide +kernel
theorem em206_17 : decode prog_16_method_49_code 17 = .ok (.iushr, 1) := by decide +kernel
theorem em206_18 : decode prog_16_method_49_code 18 = .ok (.ldc_w 266, 3) := by decide +kernel
theorem em206_21 : decode prog_16_method_49_code 21 = .ok (.iand, 1) := by decide +kernel
theorem em206_22 : decode prog_16_method_49_code 22 = .ok (.iadd, 1) := by decide +kernel
theorem em206_23 : decode prog_16_method_49_code 23 = .ok (.istore_n 0, 1) := by decide +kernel
theorem em206_24 : decode prog_16_method_49_code 24 = .ok (.iload_n 0, 1) := by decide +kernel
theorem em206_25 : decode prog_16_method_49_code 25 = .ok (.iload_n 0, 1) := by decide +kernel
theorem em206_26 : decode prog_16_method_49_code 26 = .ok (.iconst 4, 1) := by decide +kernel
theorem em206_27 : decode prog_16_method_49_code 27 = .ok (.iushr, 1) := by decide +kernel
theorem em206_28 : decode prog_16_method_49_code 28 = .ok (.iadd, 1) := by decide +kernel
theorem em206_29 : decode prog_16_method_49_code 29 = .ok (.ldc_w 267, 3) := by decide +kernel
theorem em206_32 : decode prog_16_method_49_code 32 = .ok (.iand, 1) := by decide +kernel
theorem em206_33 : decode prog_16_method_49_code 33 = .ok (.istore_n 0, 1) := by decide +kernel
theorem em206_34 : decode prog_16_method_49_code 34 = .ok (.iload_n 0, 1) := by decide +kernel
theorem em206_35 : decode prog_16_method_49_code 35 = .ok (.iload_n 0, 1) := by decide +kernel
theorem em206_36 : decode prog_16_method_49_code 36 = .ok (.bipush 8, 2) := by decide +kernel
theorem em206_38 : decode prog_16_method_49_code 38 = .ok (.iushr, 1) := by decide +kernel
theorem em206_39 : decode prog_16_method_49_code 39 = .ok (.iadd, 1) := by decide +kernel
theorem em206_40 : decode prog_16_method_49_code 40 = .ok (.istore_n 0, 1) := by decide +kernel
theorem em206_41 : decode prog_16_method_49_code 41 = .ok (.iload_n 0, 1) := by decide +kernel
theorem em206_42 : decode prog_16_method_49_code 42 = .ok (.iload_n 0, 1) := by decide +kernel
theorem em206_43 : decode prog_16_method_49_code 43 = .ok (.bipush 16, 2) := by decide +kernel
theorem em206_45 : decode prog_16_method_49_code 45 = .ok (.iushr, 1) := by decide +kernel
theorem em206_46 : decode prog_16_method_49_code 46 = .ok (.iadd, 1) := by decide +kernel
theorem em206_47 : decode prog_16_method_49_code 47 = .ok (.istore_n 0, 1) := by decide +kernel
theorem em206_48 : decode prog_16_method_49_code 48 = .ok (.iload_n 0, 1) := by decide +kernel
theorem em206_49 : decode prog_16_method_49_code 49 = .ok (.bipush 63, 2) := by decide +kernel
theorem em206_51 : decode prog_16_method_49_code 51 = .ok (.iand, 1) := by decide +kernel
theorem em206_52 : decode prog_16_method_49_code 52 = .ok (.ireturn, 1) := by decide +kernel
/-! java/lang/Integer.bitCount:(I)I -/
noncomputable def zTr_233 : Nat → Option aF := bn 26 (bn 14 (bn 7 (bn 2 (bn 1 (bl 0 (a_iload 0 1)) (bl 1 (a_iload 0 2))) (bn 3 (bl 2 (a_const 1 3)) (bn 4 (bl 3 (a_bin fushr 4)) (bl 4 (a_const 1431655765 7))))) (bn 9 (bn 8 (bl 7 (a_bin fand 8)) (bl 8 (a_bin fsub 9))) (bn 10 (bl 9 (a_istore 0 10)) (bn 11 (bl 10 (a_iload 0 11)) (bl 11 (a_const 858993459 14)))))) (bn 21 (bn 16 (bn 15 (bl 14 (a_bin fand 15)) (bl 15 (a_iload 0 16))) (bn 17 (bl 16 (a_const 2 17)) (bn 18 (bl 17 (a_bin fushr 18)) (bl 18 (a_const 858993459 21))))) (bn 23 (bn 22 (bl 21 (a_bin fand 22)) (bl 22 (a_bin fadd 23))) (bn 24 (bl 23 (a_istore 0 24)) (bn 25 (bl 24 (a_iload 0 25)) (bl 25 (a_iload 0 26))))))) (bn 39 (bn 33 (bn 28 (bn 27 (bl 26 (a_const 4 27)) (bl 27 (a_bin fushr 28))) (bn 29 (bl 28 (a_bin fadd 29)) (bn 32 (bl 29 (a_const 252645135 32)) (bl 32 (a_bin fand 33))))) (bn 35 (bn 34 (bl 33 (a_istore 0 34)) (bl 34 (a_iload 0 35))) (bn 36 (bl 35 (a_iload 0 36)) (bn 38 (bl 36 (a_const 8 38)) (bl 38 (a_bin fushr 39)))))) (bn 45 (bn 41 (bn 40 (bl 39 (a_bin fadd 40)) (bl 40 (a_istore 0 41))) (bn 42 (bl 41 (a_iload 0 42)) (bn 43 (bl 42 (a_iload 0 43)) (bl 43 (a_const 16 45))))) (bn 48 (bn 46 (bl 45 (a_bin fushr 46)) (bn 47 (bl 46 (a_bin fadd 47)) (bl 47 (a_istore 0 48)))) (bn 49 (bl 48 (a_iload 0 49)) (bn 51 (bl 49 (a_const 63 51)) (bl 51 (a_bin fand 52)))))))
set_option maxRecDepth 100000 in
set_option maxHeartbeats 4000000 in
theorem zTo_233 {pre : zPre} {post : zPost} (H : zTieC pre post) {d : Nat × Nat × Nat} (hd : zLe (0, 0, 0) d) : aTr zG0 zT0 zInv (false, false) PZ zbd pre post d prog_16_method_49_code "java/lang/Integer" zTr_233 := (xB_n (xB_n (xB_n (xB_n (xB_n (xB_l ⟨_, zs_iload_n em206_0, as_iload⟩) (xB_l ⟨_, zs_iload_n em206_1, as_iload⟩)) (xB_n (xB_l ⟨_, zs_iconst (v := 1) em206_2 (by decide +kernel), as_const (by decide +kernel)⟩) (xB_n (xB_l ⟨_, zs_iushr em206_3, as_bin fushr_ok⟩) (xB_l ⟨_, zs_ldcw (v := 1431655765) em206_4 wd_1220 ((congrFun xo_13 265).trans (by decide +kernel)), as_const (by decide +kernel)⟩)))) (xB_n (xB_n (xB_l ⟨_, zs_iand em206_7, as_bin fand_ok⟩) (xB_l ⟨_, zs_isub em206_8, as_bin fsub_ok⟩)) (xB_n (xB_l ⟨_, zs_istore_n em206_9, as_istore⟩) (xB_n (xB_l ⟨_, zs_iload_n em206_10, as_iload⟩) (xB_l ⟨_, zs_ldcw (v := 858993459) em206_11 wd_1221 ((congrFun xo_13 266).trans (by decide +kernel)), as_const (by decide +kernel)⟩))))) (xB_n (xB_n (xB_n (xB_l ⟨_, zs_iand em206_14, as_bin fand_ok⟩) (xB_l ⟨_, zs_iload_n em206_15, as_iload⟩)) (xB_n (xB_l ⟨_, zs_iconst (v := 2) em206_16 (by decide +kernel), as_const (by decide +kernel)⟩) (xB_n (xB_l ⟨_, zs_iushr em206_17, as_bin fushr_ok⟩) (xB_l ⟨_, zs_ldcw (v := 858993459) em206_18 wd_1221 ((congrFun xo_13 266).trans (by decide +kernel)), as_const (by decide +kernel)⟩)))) (xB_n (xB_n (xB_l ⟨_, zs_iand em206_21, as_bin fand_ok⟩) (xB_l ⟨_, zs_iadd em206_22, as_bin fadd_ok⟩)) (xB_n (xB_l ⟨_, zs_istore_n em206_23, as_istore⟩) (xB_n (xB_l ⟨_, zs_iload_n em206_24, as_iload⟩) (xB_l ⟨_, zs_iload_n em206_25, as_iload⟩)))))) (xB_n (xB_n (xB_n (xB_n (xB_l ⟨_, zs_iconst (v := 4) em206_26 (by decide +kernel), as_const (by decide +kernel)⟩) (xB_l ⟨_, zs_iushr em206_27, as_bin fushr_ok⟩)) (xB_n (xB_l ⟨_, zs_iadd em206_28, as_bin fadd_ok⟩) (xB_n (xB_l ⟨_, zs_ldcw (v := 252645135) em206_29 wd_1222 ((congrFun xo_13 267).trans (by decide +kernel)), as_const (by decide +kernel)⟩) (xB_l ⟨_, zs_iand em206_32, as_bin fand_ok⟩)))) (xB_n (xB_n (xB_l ⟨_, zs_istore_n em206_33, as_istore⟩) (xB_l ⟨_, zs_iload_n em206_34, as_iload⟩)) (xB_n (xB_l ⟨_, zs_iload_n em206_35, as_iload⟩) (xB_n (xB_l ⟨_, zs_bipush (v := 8) em206_36 (by decide +kernel), as_const (by decide +kernel)⟩) (xB_l ⟨_, zs_iushr em206_38, as_bin fushr_ok⟩))))) (xB_n (xB_n (xB_n (xB_l ⟨_, zs_iadd em206_39, as_bin fadd_ok⟩) (xB_l ⟨_, zs_istore_n em206_40, as_istore⟩)) (xB_n (xB_l ⟨_, zs_iload_n em206_41, as_iload⟩) (xB_n (xB_l ⟨_, zs_iload_n em206_42, as_iload⟩) (xB_l ⟨_, zs_bipush (v := 16) em206_43 (by decide +kernel), as_const (by decide +kernel)⟩)))) (xB_n (xB_n (xB_l ⟨_, zs_iushr em206_45, as_bin fushr_ok⟩) (xB_n (xB_l ⟨_, zs_iadd em206_46, as_bin fadd_ok⟩) (xB_l ⟨_, zs_istore_n em206_47, as_istore⟩))) (xB_n (xB_l ⟨_, zs_iload_n em206_48, as_iload⟩) (xB_n (xB_l ⟨_, zs_bipush (v := 63) em206_49 (by decide +kernel), as_const (by decide +kernel)⟩) (xB_l ⟨_, zs_iand em206_51, as_bin fand_ok⟩)))))))
set_option maxRecDepth 100000 in
set_option maxHeartbeats 4000000 in
theorem zM_233 : zOKa 233 zc_233 := z_auto (cuts := []) (rets := [(52, 1)]) (fuel := 1000) rfl rfl (by decide) (xrt_ok (xR_c (Or.inl ⟨rfl, em206_52, rfl⟩) (xR_n))) (fun _ _ H _ hd => zTo_233 H hd) (by decide +kernel)
theorem em207_0 : decode prog_22_method_103_code 0 = .ok (.iconst 0, 1) := by decide +kernel
theorem em207_1 : decode prog_22_method_103_code 1 = .ok (.istore_n 2, 1) := by decide +kernel
theorem em207_2 : decode prog_22_method_103_code 2 = .ok (.aload_n 0, 1) := by decide +kernel
theorem em207_3 : decode prog_22_method_103_code 3 = .ok (.arraylength, 1) := by decide +kernel
theorem em207_4 : decode prog_22_method_103_code 4 = .ok (.istore_n 3, 1) := by decide +kernel
theorem em207_5 : decode prog_22_method_103_code 5 = .ok (.iload_n 2, 1) := by decide +kernel
theorem em207_6 : decode prog_22_method_103_code 6 = .ok (.iload_n 3, 1) := by decide +kernel
theorem em207_7 : decode prog_22_method_103_code 7 = .ok (.if_icmp .ge 13, 3) := by decide +kernel
theorem em207_10 : decode prog_22_method_103_code 10 = .ok (.aload_n 0, 1) := by decide +kernel
theorem em207_11 : decode prog_22_method_103_code 11 = .ok (.iload_n 2, 1) := by decide +kernel
theorem em207_12 : decode prog_22_method_103_code 12 = .ok (.iload_n 1, 1) := by decide +kernel
theorem em207_13 : decode prog_22_method_103_code 13 = .ok (.iastore, 1) := by decide +kernel
theorem em207_14 : decode prog_22_method_103_code 14 = .ok (.iinc 2 1, 3) := by decide +kernel
theorem em207_17 : decode prog_22_method_103_code 17 = .ok (.goto (-12), 3) := by decide +kernel
theorem em207_20 : decode prog_22_method_103_code 20 = .ok (.return_, 1) := by decide +kernel
/-! java/util/Arrays.fill:([II)V -/
noncomputable def zTr_234 : Nat → Option aF := bn 7 (bn 3 (bn 1 (bl 0 (a_const 0 1)) (bn 2 (bl 1 (a_istore 2 2)) (bl 2 (a_aload 0 3)))) (bn 5 (bn 4 (bl 3 (a_alen zG0 4)) (bl 4 (a_istore 3 5))) (bn 6 (bl 5 (a_iload 2 6)) (bl 6 (a_iload 3 7))))) (bn 12 (bn 10 (bl 7 (a_icmp 3 20 10)) (bn 11 (bl 10 (a_aload 0 11)) (bl 11 (a_iload 2 12)))) (bn 14 (bn 13 (bl 12 (a_iload 1 13)) (bl 13 (a_ast zG0 zT0 ts0 14))) (bn 17 (bl 14 (a_iinc 2 1 17)) (bl 17 (a_goto 5)))))
set_option maxRecDepth 100000 in
set_option maxHeartbeats 4000000 in
theorem zTo_234 {pre : zPre} {post : zPost} (H : zTieC pre post) {d : Nat × Nat × Nat} (hd : zLe (0, 0, 0) d) : aTr zG0 zT0 zInv (false, false) PZ zbd pre post d prog_22_method_103_code "java/util/Arrays" zTr_234 := (xB_n (xB_n (xB_n (xB_l ⟨_, zs_iconst (v := 0) em207_0 (by decide +kernel), as_const (by decide +kernel)⟩) (xB_n (xB_l ⟨_, zs_istore_n em207_1, as_istore⟩) (xB_l ⟨_, zs_aload_n em207_2, as_aload⟩))) (xB_n (xB_n (xB_l ⟨_, zs_alen em207_3, as_alen⟩) (xB_l ⟨_, zs_istore_n em207_4, as_istore⟩)) (xB_n (xB_l ⟨_, zs_iload_n em207_5, as_iload⟩) (xB_l ⟨_, zs_iload_n em207_6, as_iload⟩)))) (xB_n (xB_n (xB_l ⟨_, zs_icmpge em207_7 (t := 20) (by decide), as_icmp⟩) (xB_n (xB_l ⟨_, zs_aload_n em207_10, as_aload⟩) (xB_l ⟨_, zs_iload_n em207_11, as_iload⟩))) (xB_n (xB_n (xB_l ⟨_, zs_iload_n em207_12, as_iload⟩) (xB_l ⟨_, zs_iast zInj0 em207_13, as_iast zTie⟩)) (xB_n (xB_l ⟨_, zs_iinc (k := 1) em207_14 (by decide +kernel), as_iinc (by decide +kernel)⟩) (xB_l ⟨_, zs_goto em207_17 (t := 5) (by decide), as_goto⟩)))))
set_option maxRecDepth 100000 in
set_option maxHeartbeats 4000000 in
theorem zM_234 : zOKa 234 zc_234 := z_auto (cuts := [(5, ([(0, 0), (0, 0), (0, 40)], [], [some (.inr (.inl (1, 1002))), some (.inl (1, 0)), some (.inl (2, 0)), some (.inl (0, 40))], [], [], (0, 0)), [(0, 2)], 40, [0, 0, (-1)])]) (rets := [(20, 3)]) (fuel := 1000) rfl rfl (by decide) (xrt_ok (xR_c (Or.inr (Or.inr (Or.inl ⟨rfl, em207_20, rfl⟩))) (xR_n))) (fun _ _ H _ hd => zTo_234 H hd) (by decide +kernel)
/-! java/util/Arrays.fill:([II)V -/
noncomputable def zTr_235 : Nat → Option aF := bn 7 (bn 3 (bn 1 (bl 0 (a_const 0 1)) (bn 2 (bl 1 (a_istore 2 2)) (bl 2 (a_aload 0 3)))) (bn 5 (bn 4 (bl 3 (a_alen zG0 4)) (bl 4 (a_istore 3 5))) (bn 6 (bl 5 (a_iload 2 6)) (bl 6 (a_iload 3 7))))) (bn 12 (bn 10 (bl 7 (a_icmp 3 20 10)) (bn 11 (bl 10 (a_aload 0 11)) (bl 11 (a_iload 2 12)))) (bn 14 (bn 13 (bl 12 (a_iload 1 13)) (bl 13 (a_ast zG0 zT0 ts0 14))) (bn 17 (bl 14 (a_iinc 2 1 17)) (bl 17 (a_goto 5)))))
set_option maxRecDepth 100000 in
set_option maxHeartbeats 4000000 in
theorem zTo_235 {pre : zPre} {post : zPost} (H : zTieC pre post) {d : Nat × Nat × Nat} (hd : zLe (0, 0, 0) d) : aTr zG0 zT0 zInv (false, false) PZ zbd pre post d prog_22_method_103_code "java/util/Arrays" zTr_235 := (xB_n (xB_n (xB_n (xB_l ⟨_, zs_iconst (v := 0) em207_0 (by decide +kernel), as_const (by decide +kernel)⟩) (xB_n (xB_l ⟨_, zs_istore_n em207_1, as_istore⟩) (xB_l ⟨_, zs_aload_n em207_2, as_aload⟩))) (xB_n (xB_n (xB_l ⟨_, zs_alen em207_3, as_alen⟩) (xB_l ⟨_, zs_istore_n em207_4, as_istore⟩)) (xB_n (xB_l ⟨_, zs_iload_n em207_5, as_iload⟩) (xB_l ⟨_, zs_iload_n em207_6, as_iload⟩)))) (xB_n (xB_n (xB_l ⟨_, zs_icmpge em207_7 (t := 20) (by decide), as_icmp⟩) (xB_n (xB_l ⟨_, zs_aload_n em207_10, as_aload⟩) (xB_l ⟨_, zs_iload_n em207_11, as_iload⟩))) (xB_n (xB_n (xB_l ⟨_, zs_iload_n em207_12, as_iload⟩) (xB_l ⟨_, zs_iast zInj0 em207_13, as_iast zTie⟩)) (xB_n (xB_l ⟨_, zs_iinc (k := 1) em207_14 (by decide +kernel), as_iinc (by decide +kernel)⟩) (xB_l ⟨_, zs_goto em207_17 (t := 5) (by decide), as_goto⟩)))))
set_option maxRecDepth 100000 in
set_option maxHeartbeats 4000000 in
theorem zM_235 : zOKa 235 zc_235 := z_auto (cuts := [(5, ([(0, 0), (0, 0), (0, 40)], [], [some (.inr (.inl (1, 1003))), some (.inl (1, 0)), some (.inl (2, 0)), some (.inl (0, 40))], [], [], (0, 0)), [(0, 2)], 40, [0, 0, (-1)])]) (rets := [(20, 3)]) (fuel := 1000) rfl rfl (by decide) (xrt_ok (xR_c (Or.inr (Or.inr (Or.inl ⟨rfl, em207_20, rfl⟩))) (xR_n))) (fun _ _ H _ hd => zTo_235 H hd) (by decide +kernel)
/-! java/util/Arrays.fill:([II)V -/
noncomputable def zTr_236 : Nat → Option aF := bn 7 (bn 3 (bn 1 (bl 0 (a_const 0 1)) (bn 2 (bl 1 (a_istore 2 2)) (bl 2 (a_aload 0 3)))) (bn 5 (bn 4 (bl 3 (a_alen zG0 4)) (bl 4 (a_istore 3 5))) (bn 6 (bl 5 (a_iload 2 6)) (bl 6 (a_iload 3 7))))) (bn 12 (bn 10 (bl 7 (a_icmp 3 20 10)) (bn 11 (bl 10 (a_aload 0 11)) (bl 11 (a_iload 2 12)))) (bn 14 (bn 13 (bl 12 (a_iload 1 13)) (bl 13 (a_ast zG0 zT0 ts0 14))) (bn 17 (bl 14 (a_iinc 2 1 17)) (bl 17 (a_goto 5)))))
set_option maxRecDepth 100000 in
set_option maxHeartbeats 4000000 in
theorem zTo_236 {pre : zPre} {post : zPost} (H : zTieC pre post) {d : Nat × Nat × Nat} (hd : zLe (0, 0, 0) d) : aTr zG0 zT0 zInv (false, false) PZ zbd pre post d prog_22_method_103_code "java/util/Arrays" zTr_236 := (xB_n (xB_n (xB_n (xB_l ⟨_, zs_iconst (v := 0) em207_0 (by decide +kernel), as_const (by decide +kernel)⟩) (xB_n (xB_l ⟨_, zs_istore_n em207_1, as_istore⟩) (xB_l ⟨_, zs_aload_n em207_2, as_aload⟩))) (xB_n (xB_n (xB_l ⟨_, zs_alen em207_3, as_alen⟩) (xB_l ⟨_, zs_istore_n em207_4, as_istore⟩)) (xB_n (xB_l ⟨_, zs_iload_n em207_5, as_iload⟩) (xB_l ⟨_, zs_iload_n em207_6, as_iload⟩)))) (xB_n (xB_n (xB_l ⟨_, zs_icmpge em207_7 (t := 20) (by decide), as_icmp⟩) (xB_n (xB_l ⟨_, zs_aload_n em207_10, as_aload⟩) (xB_l ⟨_, zs_iload_n em207_11, as_iload⟩))) (xB_n (xB_n (xB_l ⟨_, zs_iload_n em207_12, as_iload⟩) (xB_l ⟨_, zs_iast zInj0 em207_13, as_iast zTie⟩)) (xB_n (xB_l ⟨_, zs_iinc (k := 1) em207_14 (by decide +kernel), as_iinc (by decide +kernel)⟩) (xB_l ⟨_, zs_goto em207_17 (t := 5) (by decide), as_goto⟩)))))
set_option maxRecDepth 100000 in
set_option maxHeartbeats 4000000 in
theorem zM_236 : zOKa 236 zc_236 := z_auto (cuts := [(5, ([(0, 0), (0, 0), (0, 200)], [], [some (.inr (.inl (1, 1004))), some (.inl (1, 0)), some (.inl (2, 0)), some (.inl (0, 200))], [], [], (0, 0)), [(0, 2)], 200, [0, 0, (-1)])]) (rets := [(20, 3)]) (fuel := 1000) rfl rfl (by decide) (xrt_ok (xR_c (Or.inr (Or.inr (Or.inl ⟨rfl, em207_20, rfl⟩))) (xR_n))) (fun _ _ H _ hd => zTo_236 H hd) (by decide +kernel)
/-! java/util/Arrays.fill:([II)V -/
noncomputable def zTr_237 : Nat → Option aF := bn 7 (bn 3 (bn 1 (bl 0 (a_const 0 1)) (bn 2 (bl 1 (a_istore 2 2)) (bl 2 (a_aload 0 3)))) (bn 5 (bn 4 (bl 3 (a_alen zG0 4)) (bl 4 (a_istore 3 5))) (bn 6 (bl 5 (a_iload 2 6)) (bl 6 (a_iload 3 7))))) (bn 12 (bn 10 (bl 7 (a_icmp 3 20 10)) (bn 11 (bl 10 (a_aload 0 11)) (bl 11 (a_iload 2 12)))) (bn 14 (bn 13 (bl 12 (a_iload 1 13)) (bl 13 (a_ast zG0 zT0 ts0 14))) (bn 17 (bl 14 (a_iinc 2 1 17)) (bl 17 (a_goto 5)))))
set_option maxRecDepth 100000 in
set_option maxHeartbeats 4000000 in
theorem zTo_237 {pre : zPre} {post : zPost} (H : zTieC pre post) {d : Nat × Nat × Nat} (hd : zLe (0, 0, 0) d) : aTr zG0 zT0 zInv (false, false) PZ zbd pre post d prog_22_method_103_code "java/util/Arrays" zTr_237 := (xB_n (xB_n (xB_n (xB_l ⟨_, zs_iconst (v := 0) em207_0 (by decide +kernel), as_const (by decide +kernel)⟩) (xB_n (xB_l ⟨_, zs_istore_n em207_1, as_istore⟩) (xB_l ⟨_, zs_aload_n em207_2, as_aload⟩))) (xB_n (xB_n (xB_l ⟨_, zs_alen em207_3, as_alen⟩) (xB_l ⟨_, zs_istore_n em207_4, as_istore⟩)) (xB_n (xB_l ⟨_, zs_iload_n em207_5, as_iload⟩) (xB_l ⟨_, zs_iload_n em207_6, as_iload⟩)))) (xB_n (xB_n (xB_l ⟨_, zs_icmpge em207_7 (t := 20) (by decide), as_icmp⟩) (xB_n (xB_l ⟨_, zs_aload_n em207_10, as_aload⟩) (xB_l ⟨_, zs_iload_n em207_11, as_iload⟩))) (xB_n (xB_n (xB_l ⟨_, zs_iload_n em207_12, as_iload⟩) (xB_l ⟨_, zs_iast zInj0 em207_13, as_iast zTie⟩)) (xB_n (xB_l ⟨_, zs_iinc (k := 1) em207_14 (by decide +kernel), as_iinc (by decide +kernel)⟩) (xB_l ⟨_, zs_goto em207_17 (t := 5) (by decide), as_goto⟩)))))
set_option maxRecDepth 100000 in
set_option maxHeartbeats 4000000 in
theorem zM_237 : zOKa 237 zc_237 := z_auto (cuts := [(5, ([(0, 0), (0, 0), (0, 40)], [], [some (.inr (.inl (0, 14))), some (.inl (1, 0)), some (.inl (2, 0)), some (.inl (0, 40))], [], [], (0, 0)), [(0, 2)], 40, [0, 0, (-1)])]) (rets := [(20, 3)]) (fuel := 1000) rfl rfl (by decide) (xrt_ok (xR_c (Or.inr (Or.inr (Or.inl ⟨rfl, em207_20, rfl⟩))) (xR_n))) (fun _ _ H _ hd => zTo_237 H hd) (by decide +kernel)
/-! java/util/Arrays.fill:([II)V -/
noncomputable def zTr_238 : Nat → Option aF := bn 7 (bn 3 (bn 1 (bl 0 (a_const 0 1)) (bn 2 (bl 1 (a_istore 2 2)) (bl 2 (a_aload 0 3)))) (bn 5 (bn 4 (bl 3 (a_alen zG0 4)) (bl 4 (a_istore 3 5))) (bn 6 (bl 5 (a_iload 2 6)) (bl 6 (a_iload 3 7))))) (bn 12 (bn 10 (bl 7 (a_icmp 3 20 10)) (bn 11 (bl 10 (a_aload 0 11)) (bl 11 (a_iload 2 12)))) (bn 14 (bn 13 (bl 12 (a_iload 1 13)) (bl 13 (a_ast zG0 zT0 ts0 14))) (bn 17 (bl 14 (a_iinc 2 1 17)) (bl 17 (a_goto 5)))))
set_option maxRecDepth 100000 in
set_option maxHeartbeats 4000000 in
theorem zTo_238 {pre : zPre} {post : zPost} (H : zTieC pre post) {d : Nat × Nat × Nat} (hd : zLe (0, 0, 0) d) : aTr zG0 zT0 zInv (false, false) PZ zbd pre post d prog_22_method_103_code "java/util/Arrays" zTr_238 := (xB_n (xB_n (xB_n (xB_l ⟨_, zs_iconst (v := 0) em207_0 (by decide +kernel), as_const (by decide +kernel)⟩) (xB_n (xB_l ⟨_, zs_istore_n em207_1, as_istore⟩) (xB_l ⟨_, zs_aload_n em207_2, as_aload⟩))) (xB_n (xB_n (xB_l ⟨_, zs_alen em207_3, as_alen⟩) (xB_l ⟨_, zs_istore_n em207_4, as_istore⟩)) (xB_n (xB_l ⟨_, zs_iload_n em207_5, as_iload⟩) (xB_l ⟨_, zs_iload_n em207_6, as_iload⟩)))) (xB_n (xB_n (xB_l ⟨_, zs_icmpge em207_7 (t := 20) (by decide), as_icmp⟩) (xB_n (xB_l ⟨_, zs_aload_n em207_10, as_aload⟩) (xB_l ⟨_, zs_iload_n em207_11, as_iload⟩))) (xB_n (xB_n (xB_l ⟨_, zs_iload_n em207_12, as_iload⟩) (xB_l ⟨_, zs_iast zInj0 em207_13, as_iast zTie⟩)) (xB_n (xB_l ⟨_, zs_iinc (k := 1) em207_14 (by decide +kernel), as_iinc (by decide +kernel)⟩) (xB_l ⟨_, zs_goto em207_17 (t := 5) (by decide), as_goto⟩)))))
set_option maxRecDepth 100000 in
set_option maxHeartbeats 4000000 in
theorem zM_238 : zOKa 238 zc_238 := z_auto (cuts := [(5, ([(0, 0), (0, 0), (0, 56)], [], [some (.inr (.inl (0, 19))), some (.inl (1, 0)), some (.inl (2, 0)), some (.inl (0, 56))], [], [], (0, 0)), [(0, 2)], 56, [0, 0, (-1)])]) (rets := [(20, 3)]) (fuel := 1000) rfl rfl (by decide) (xrt_ok (xR_c (Or.inr (Or.inr (Or.inl ⟨rfl, em207_20, rfl⟩))) (xR_n))) (fun _ _ H _ hd => zTo_238 H hd) (by decide +kernel)
/-! java/util/Arrays.fill:([II)V -/
noncomputable def zTr_239 : Nat → Option aF := bn 7 (bn 3 (bn 1 (bl 0 (a_const 0 1)) (bn 2 (bl 1 (a_istore 2 2)) (bl 2 (a_aload 0 3)))) (bn 5 (bn 4 (bl 3 (a_alen zG0 4)) (bl 4 (a_istore 3 5))) (bn 6 (bl 5 (a_iload 2 6)) (bl 6 (a_iload 3 7))))) (bn 12 (bn 10 (bl 7 (a_icmp 3 20 10)) (bn 11 (bl 10 (a_aload 0 11)) (bl 11 (a_iload 2 12)))) (bn 14 (bn 13 (bl 12 (a_iload 1 13)) (bl 13 (a_ast zG0 zT0 ts0 14))) (bn 17 (bl 14 (a_iinc 2 1 17)) (bl 17 (a_goto 5)))))
set_option maxRecDepth 100000 in
set_option maxHeartbeats 4000000 in
theorem zTo_239 {pre : zPre} {post : zPost} (H : zTieC pre post) {d : Nat × Nat × Nat} (hd : zLe (0, 0, 0) d) : aTr zG0 zT0 zInv (false, false) PZ zbd pre post d prog_22_method_103_code "java/util/Arrays" zTr_239 := (xB_n (xB_n (xB_n (xB_l ⟨_, zs_iconst (v := 0) em207_0 (by decide +kernel), as_const (by decide +kernel)⟩) (xB_n (xB_l ⟨_, zs_istore_n em207_1, as_istore⟩) (xB_l ⟨_, zs_aload_n em207_2, as_aload⟩))) (xB_n (xB_n (xB_l ⟨_, zs_alen em207_3, as_alen⟩) (xB_l ⟨_, zs_istore_n em207_4, as_istore⟩)) (xB_n (xB_l ⟨_, zs_iload_n em207_5, as_iload⟩) (xB_l ⟨_, zs_iload_n em207_6, as_iload⟩)))) (xB_n (xB_n (xB_l ⟨_, zs_icmpge em207_7 (t := 20) (by decide), as_icmp⟩) (xB_n (xB_l ⟨_, zs_aload_n em207_10, as_aload⟩) (xB_l ⟨_, zs_iload_n em207_11, as_iload⟩))) (xB_n (xB_n (xB_l ⟨_, zs_iload_n em207_12, as_iload⟩) (xB_l ⟨_, zs_iast zInj0 em207_13, as_iast zTie⟩)) (xB_n (xB_l ⟨_, zs_iinc (k := 1) em207_14 (by decide +kernel), as_iinc (by decide +kernel)⟩) (xB_l ⟨_, zs_goto em207_17 (t := 5) (by decide), as_goto⟩)))))
set_option maxRecDepth 100000 in
set_option maxHeartbeats 4000000 in
theorem zM_239 : zOKa 239 zc_239 := z_auto (cuts := [(5, ([(0, 0), (0, 0), (0, 9)], [], [some (.inr (.inl (0, 49))), some (.inl (1, 0)), some (.inl (2, 0)), some (.inl (0, 9))], [], [], (0, 0)), [(0, 2)], 9, [0, 0, (-1)])]) (rets := [(20, 3)]) (fuel := 1000) rfl rfl (by decide) (xrt_ok (xR_c (Or.inr (Or.inr (Or.inl ⟨rfl, em207_20, rfl⟩))) (xR_n))) (fun _ _ H _ hd => zTo_239 H hd) (by decide +kernel)
theorem em208_0 : decode prog_9_method_3_code 0 = .ok (.iload_n 0, 1) := by decide +kernel
theorem em208_1 : decode prog_9_method_3_code 1 = .ok (.bipush 9, 2) := by decide +kernel
theorem em208_3 : decode prog_9_method_3_code 3 = .ok (.if_icmp .eq 21, 3) := by decide +kernel
theorem em208_6 : decode prog_9_method_3_code 6 = .ok (.iload_n 0, 1) := by decide +kernel
theorem em208_7 : decode prog_9_method_3_code 7 = .ok (.bipush 10, 2) := by decide +kernel
theorem em208_9 : decode prog_9_method_3_code 9 = .ok (.if_icmp .eq 15, 3) := by decide +kernel
theorem em208_12 : decode prog_9_method_3_code 12 = .ok (.iload_n 0, 1) := by decide +kernel
theorem em208_13 : decode prog_9_method_3_code 13 = .ok (.bipush 13, 2) := by decide +kernel
theorem em208_15 : decode prog_9_method_3_code 15 = .ok (.if_icmp .eq 9, 3) := by decide +kernel
theorem em208_18 : decode prog_9_method_3_code 18 = .ok (.iload_n 0, 1) := by decide +kernel
theorem em208_19 : decode prog_9_method_3_code 19 = .ok (.bipush 32, 2) := by decide +kernel
theorem em208_21 : decode prog_9_method_3_code 21 = .ok (.if_icmp .ne 7, 3) := by decide +kernel
theorem em208_24 : decode prog_9_method_3_code 24 = .ok (.iconst 1, 1) := by decide +kernel
theorem em208_25 : decode prog_9_method_3_code 25 = .ok (.goto 4, 3) := by decide +kernel
theorem em208_28 : decode prog_9_method_3_code 28 = .ok (.iconst 0, 1) := by decide +kernel
theorem em208_29 : decode prog_9_method_3_code 29 = .ok (.ireturn, 1) := by decide +kernel
/-! CapitalCase$Tokens.isBlank:(I)Z -/
noncomputable def zTr_240 : Nat → Option aF := bn 13 (bn 6 (bn 1 (bl 0 (a_iload 0 1)) (bn 3 (bl 1 (a_const 9 3)) (bl 3 (a_icmp 0 24 6)))) (bn 9 (bn 7 (bl 6 (a_iload 0 7)) (bl 7 (a_const 10 9))) (bn 12 (bl 9 (a_icmp 0 24 12)) (bl 12 (a_iload 0 13))))) (bn 21 (bn 18 (bn 15 (bl 13 (a_const 13 15)) (bl 15 (a_icmp 0 24 18))) (bn 19 (bl 18 (a_iload 0 19)) (bl 19 (a_const 32 21)))) (bn 25 (bn 24 (bl 21 (a_icmp 1 28 24)) (bl 24 (a_const 1 25))) (bn 28 (bl 25 (a_goto 29)) (bl 28 (a_const 0 29)))))
set_option maxRecDepth 100000 in
set_option maxHeartbeats 4000000 in
theorem zTo_240 {pre : zPre} {post : zPost} (H : zTieC pre post) {d : Nat × Nat × Nat} (hd : zLe (0, 0, 0) d) : aTr zG0 zT0 zInv (false, false) PZ zbd pre post d prog_9_method_3_code "CapitalCase$Tokens" zTr_240 := (xB_n (xB_n (xB_n (xB_l ⟨_, zs_iload_n em208_0, as_iload⟩) (xB_n (xB_l ⟨_, zs_bipush (v := 9) em208_1 (by decide +kernel), as_const (by decide +kernel)⟩) (xB_l ⟨_, zs_icmpeq em208_3 (t := 24) (by decide), as_icmp⟩))) (xB_n (xB_n (xB_l ⟨_, zs_iload_n em208_6, as_iload⟩) (xB_l ⟨_, zs_bipush (v := 10) em208_7 (by decide +kernel), as_const (by decide +kernel)⟩)) (xB_n (xB_l ⟨_, zs_icmpeq em208_9 (t := 24) (by decide), as_icmp⟩) (xB_l ⟨_, zs_iload_n em208_12, as_iload⟩)))) (xB_n (xB_n (xB_n (xB_l ⟨_, zs_bipush (v := 13) em208_13 (by decide +kernel), as_const (by decide +kernel)⟩) (xB_l ⟨_, zs_icmpeq em208_15 (t := 24) (by decide), as_icmp⟩)) (xB_n (xB_l ⟨_, zs_iload_n em208_18, as_iload⟩) (xB_l ⟨_, zs_bipush (v := 32) em208_19 (by decide +kernel), as_const (by decide +kernel)⟩))) (xB_n (xB_n (xB_l ⟨_, zs_icmpne em208_21 (t := 28) (by decide), as_icmp⟩) (xB_l ⟨_, zs_iconst (v := 1) em208_24 (by decide +kernel), as_const (by decide +kernel)⟩)) (xB_n (xB_l ⟨_, zs_goto em208_25 (t := 29) (by decide), as_goto⟩) (xB_l ⟨_, zs_iconst (v := 0) em208_28 (by decide +kernel), as_const (by decide +kernel)⟩)))))
set_option maxRecDepth 100000 in
set_option maxHeartbeats 4000000 in
theorem zM_240 : zOKa 240 zc_240 := z_auto (cuts := []) (rets := [(29, 2)]) (fuel := 1000) rfl rfl (by decide) (xrt_ok (xR_c (Or.inr (Or.inl ⟨rfl, em208_29, rfl⟩)) (xR_n))) (fun _ _ H _ hd => zTo_240 H hd) (by decide +kernel)
theorem em209_0 : decode prog_9_method_5_code 0 = .ok (.iload_n 0, 1) := by decide +kernel
theorem em209_1 : decode prog_9_method_5_code 1 = .ok (.bipush 48, 2) := by decide +kernel
theorem em209_3 : decode prog_9_method_5_code 3 = .ok (.if_icmp .lt 13, 3) := by decide +kernel
theorem em209_6 : decode prog_9_method_5_code 6 = .ok (.iload_n 0, 1) := by decide +kernel
theorem em209_7 : decode prog_9_method_5_code 7 = .ok (.bipush 57, 2) := by decide +kernel
theorem em209_9 : decode prog_9_method_5_code 9 = .ok (.if_icmp .gt 7, 3) := by decide +kernel
theorem em209_12 : decode prog_9_method_5_code 12 = .ok (.iconst 1, 1) := by decide +kernel
theorem em209_13 : decode prog_9_method_5_code 13 = .ok (.goto 4, 3) := by decide +kernel
theorem em209_16 : decode prog_9_method_5_code 16 = .ok (.iconst 0, 1) := by decide +kernel
theorem em209_17 : decode prog_9_method_5_code 17 = .ok (.ireturn, 1) := by decide +kernel
/-! CapitalCase$Tokens.isDigit:(I)Z -/
noncomputable def zTr_241 : Nat → Option aF := bn 7 (bn 3 (bn 1 (bl 0 (a_iload 0 1)) (bl 1 (a_const 48 3))) (bn 6 (bl 3 (a_icmp 2 16 6)) (bl 6 (a_iload 0 7)))) (bn 12 (bn 9 (bl 7 (a_const 57 9)) (bl 9 (a_icmp 4 16 12))) (bn 13 (bl 12 (a_const 1 13)) (bn 16 (bl 13 (a_goto 17)) (bl 16 (a_const 0 17)))))
set_option maxRecDepth 100000 in
set_option maxHeartbeats 4000000 in
theorem zTo_241 {pre : zPre} {post : zPost} (H : zTieC pre post) {d : Nat × Nat × Nat} (hd : zLe (0, 0, 0) d) : aTr zG0 zT0 zInv (false, false) PZ zbd pre post d prog_9_method_5_code "CapitalCase$Tokens" zTr_241 := (xB_n (xB_n (xB_n (xB_l ⟨_, zs_iload_n em209_0, as_iload⟩) (xB_l ⟨_, zs_bipush (v := 48) em209_1 (by decide +kernel), as_const (by decide +kernel)⟩)) (xB_n (xB_l ⟨_, zs_icmplt em209_3 (t := 16) (by decide), as_icmp⟩) (xB_l ⟨_, zs_iload_n em209_6, as_iload⟩))) (xB_n (xB_n (xB_l ⟨_, zs_bipush (v := 57) em209_7 (by decide +kernel), as_const (by decide +kernel)⟩) (xB_l ⟨_, zs_icmpgt em209_9 (t := 16) (by decide), as_icmp⟩)) (xB_n (xB_l ⟨_, zs_iconst (v := 1) em209_12 (by decide +kernel), as_const (by decide +kernel)⟩) (xB_n (xB_l ⟨_, zs_goto em209_13 (t := 17) (by decide), as_goto⟩) (xB_l ⟨_, zs_iconst (v := 0) em209_16 (by decide +kernel), as_const (by decide +kernel)⟩)))))
set_option maxRecDepth 100000 in
set_option maxHeartbeats 4000000 in
theorem zM_241 : zOKa 241 zc_241 := z_auto (cuts := []) (rets := [(17, 2)]) (fuel := 1000) rfl rfl (by decide) (xrt_ok (xR_c (Or.inr (Or.inl ⟨rfl, em209_17, rfl⟩)) (xR_n))) (fun _ _ H _ hd => zTo_241 H hd) (by decide +kernel)
theorem em210_0 : decode prog_9_method_4_code 0 = .ok (.iload_n 0, 1) := by decide +kernel
theorem em210_1 : decode prog_9_method_4_code 1 = .ok (.bipush 97, 2) := by decide +kernel
theorem em210_3 : decode prog_9_method_4_code 3 = .ok (.if_icmp .lt 13, 3) := by decide +kernel
theorem em210_6 : decode prog_9_method_4_code 6 = .ok (.iload_n 0, 1) := by decide +kernel
theorem em210_7 : decode prog_9_method_4_code 7 = .ok (.bipush 122, 2) := by decide +kernel
theorem em210_9 : decode prog_9_method_4_code 9 = .ok (.if_icmp .gt 7, 3) := by decide +kernel
theorem em210_12 : decode prog_9_method_4_code 12 = .ok (.iconst 1, 1) := by decide +kernel
theorem em210_13 : decode prog_9_method_4_code 13 = .ok (.goto 4, 3) := by decide +kernel
theorem em210_16 : decode prog_9_method_4_code 16 = .ok (.iconst 0, 1) := by decide +kernel
theorem em210_17 : decode prog_9_method_4_code 17 = .ok (.ireturn, 1) := by decide +kernel
/-! CapitalCase$Tokens.isLower:(I)Z -/
noncomputable def zTr_242 : Nat → Option aF := bn 7 (bn 3 (bn 1 (bl 0 (a_iload 0 1)) (bl 1 (a_const 97 3))) (bn 6 (bl 3 (a_icmp 2 16 6)) (bl 6 (a_iload 0 7)))) (bn 12 (bn 9 (bl 7 (a_const 122 9)) (bl 9 (a_icmp 4 16 12))) (bn 13 (bl 12 (a_const 1 13)) (bn 16 (bl 13 (a_goto 17)) (bl 16 (a_const 0 17)))))
set_option maxRecDepth 100000 in
set_option maxHeartbeats 4000000 in
theorem zTo_242 {pre : zPre} {post : zPost} (H : zTieC pre post) {d : Nat × Nat × Nat} (hd : zLe (0, 0, 0) d) : aTr zG0 zT0 zInv (false, false) PZ zbd pre post d prog_9_method_4_code "CapitalCase$Tokens" zTr_242 := (xB_n (xB_n (xB_n (xB_l ⟨_, zs_iload_n em210_0, as_iload⟩) (xB_l ⟨_, zs_bipush (v := 97) em210_1 (by decide +kernel), as_const (by decide +kernel)⟩)) (xB_n (xB_l ⟨_, zs_icmplt em210_3 (t := 16) (by decide), as_icmp⟩) (xB_l ⟨_, zs_iload_n em210_6, as_iload⟩))) (xB_n (xB_n (xB_l ⟨_, zs_bipush (v := 122) em210_7 (by decide +kernel), as_const (by decide +kernel)⟩) (xB_l ⟨_, zs_icmpgt em210_9 (t := 16) (by decide), as_icmp⟩)) (xB_n (xB_l ⟨_, zs_iconst (v := 1) em210_12 (by decide +kernel), as_const (by decide +kernel)⟩) (xB_n (xB_l ⟨_, zs_goto em210_13 (t := 17) (by decide), as_goto⟩) (xB_l ⟨_, zs_iconst (v := 0) em210_16 (by decide +kernel), as_const (by decide +kernel)⟩)))))
set_option maxRecDepth 100000 in
set_option maxHeartbeats 4000000 in
theorem zM_242 : zOKa 242 zc_242 := z_auto (cuts := []) (rets := [(17, 2)]) (fuel := 1000) rfl rfl (by decide) (xrt_ok (xR_c (Or.inr (Or.inl ⟨rfl, em210_17, rfl⟩)) (xR_n))) (fun _ _ H _ hd => zTo_242 H hd) (by decide +kernel)
theorem em212_0 : decode prog_14_method_7_code 0 = .ok (.iload_n 0, 1) := by decide +kernel
theorem em212_1 : decode prog_14_method_7_code 1 = .ok (.bipush 48, 2) := by decide +kernel
theorem em212_3 : decode prog_14_method_7_code 3 = .ok (.if_icmp .lt 13, 3) := by decide +kernel
theorem em212_6 : decode prog_14_method_7_code 6 = .ok (.iload_n 0, 1) := by decide +kernel
theorem em212_7 : decode prog_14_method_7_code 7 = .ok (.bipush 57, 2) := by decide +kernel
theorem em212_9 : decode prog_14_method_7_code 9 = .ok (.if_icmp .gt 7, 3) := by decide +kernel
theorem em212_12 : decode prog_14_method_7_code 12 = .ok (.iconst 1, 1) := by decide +kernel
theorem em212_13 : decode prog_14_method_7_code 13 = .ok (.goto 4, 3) := by decide +kernel
theorem em212_16 : decode prog_14_method_7_code 16 = .ok (.iconst 0, 1) := by decide +kernel
theorem em212_17 : decode prog_14_method_7_code 17 = .ok (.ireturn, 1) := by decide +kernel
/-! CapitalCaseModel.isDigit:(I)Z -/
noncomputable def zTr_244 : Nat → Option aF := bn 7 (bn 3 (bn 1 (bl 0 (a_iload 0 1)) (bl 1 (a_const 48 3))) (bn 6 (bl 3 (a_icmp 2 16 6)) (bl 6 (a_iload 0 7)))) (bn 12 (bn 9 (bl 7 (a_const 57 9)) (bl 9 (a_icmp 4 16 12))) (bn 13 (bl 12 (a_const 1 13)) (bn 16 (bl 13 (a_goto 17)) (bl 16 (a_const 0 17)))))
set_option maxRecDepth 100000 in
set_option maxHeartbeats 4000000 in
theorem zTo_244 {pre : zPre} {post : zPost} (H : zTieC pre post) {d : Nat × Nat × Nat} (hd : zLe (0, 0, 0) d) : aTr zG0 zT0 zInv (false, false) PZ zbd pre post d prog_14_method_7_code "CapitalCaseModel" zTr_244 := (xB_n (xB_n (xB_n (xB_l ⟨_, zs_iload_n em212_0, as_iload⟩) (xB_l ⟨_, zs_bipush (v := 48) em212_1 (by decide +kernel), as_const (by decide +kernel)⟩)) (xB_n (xB_l ⟨_, zs_icmplt em212_3 (t := 16) (by decide), as_icmp⟩) (xB_l ⟨_, zs_iload_n em212_6, as_iload⟩))) (xB_n (xB_n (xB_l ⟨_, zs_bipush (v := 57) em212_7 (by decide +kernel), as_const (by decide +kernel)⟩) (xB_l ⟨_, zs_icmpgt em212_9 (t := 16) (by decide), as_icmp⟩)) (xB_n (xB_l ⟨_, zs_iconst (v := 1) em212_12 (by decide +kernel), as_const (by decide +kernel)⟩) (xB_n (xB_l ⟨_, zs_goto em212_13 (t := 17) (by decide), as_goto⟩) (xB_l ⟨_, zs_iconst (v := 0) em212_16 (by decide +kernel), as_const (by decide +kernel)⟩)))))
set_option maxRecDepth 100000 in
set_option maxHeartbeats 4000000 in
theorem zM_244 : zOKa 244 zc_244 := z_auto (cuts := []) (rets := [(17, 2)]) (fuel := 1000) rfl rfl (by decide) (xrt_ok (xR_c (Or.inr (Or.inl ⟨rfl, em212_17, rfl⟩)) (xR_n))) (fun _ _ H _ hd => zTo_244 H hd) (by decide +kernel)
theorem em213_0 : decode prog_14_method_8_code 0 = .ok (.iload_n 0, 1) := by decide +kernel
theorem em213_1 : decode prog_14_method_8_code 1 = .ok (.bipush 97, 2) := by decide +kernel
theorem em213_3 : decode prog_14_method_8_code 3 = .ok (.if_icmp .lt 13, 3) := by decide +kernel
theorem em213_6 : decode prog_14_method_8_code 6 = .ok (.iload_n 0, 1) := by decide +kernel
theorem em213_7 : decode prog_14_method_8_code 7 = .ok (.bipush 122, 2) := by decide +kernel
theorem em213_9 : decode prog_14_method_8_code 9 = .ok (.if_icmp .gt 7, 3) := by decide +kernel
theorem em213_12 : decode prog_14_method_8_code 12 = .ok (.iconst 1, 1) := by decide +kernel
theorem em213_13 : decode prog_14_method_8_code 13 = .ok (.goto 4, 3) := by decide +kernel
theorem em213_16 : decode prog_14_method_8_code 16 = .ok (.iconst 0, 1) := by decide +kernel
theorem em213_17 : decode prog_14_method_8_code 17 = .ok (.ireturn, 1) := by decide +kernel
/-! CapitalCaseModel.isLetter:(I)Z -/
noncomputable def zTr_245 : Nat → Option aF := bn 7 (bn 3 (bn 1 (bl 0 (a_iload 0 1)) (bl 1 (a_const 97 3))) (bn 6 (bl 3 (a_icmp 2 16 6)) (bl 6 (a_iload 0 7)))) (bn 12 (bn 9 (bl 7 (a_const 122 9)) (bl 9 (a_icmp 4 16 12))) (bn 13 (bl 12 (a_const 1 13)) (bn 16 (bl 13 (a_goto 17)) (bl 16 (a_const 0 17)))))
set_option maxRecDepth 100000 in
set_option maxHeartbeats 4000000 in
theorem zTo_245 {pre : zPre} {post : zPost} (H : zTieC pre post) {d : Nat × Nat × Nat} (hd : zLe (0, 0, 0) d) : aTr zG0 zT0 zInv (false, false) PZ zbd pre post d prog_14_method_8_code "CapitalCaseModel" zTr_245 := (xB_n (xB_n (xB_n (xB_l ⟨_, zs_iload_n em213_0, as_iload⟩) (xB_l ⟨_, zs_bipush (v := 97) em213_1 (by decide +kernel), as_const (by decide +kernel)⟩)) (xB_n (xB_l ⟨_, zs_icmplt em213_3 (t := 16) (by decide), as_icmp⟩) (xB_l ⟨_, zs_iload_n em213_6, as_iload⟩))) (xB_n (xB_n (xB_l ⟨_, zs_bipush (v := 122) em213_7 (by decide +kernel), as_const (by decide +kernel)⟩) (xB_l ⟨_, zs_icmpgt em213_9 (t := 16) (by decide), as_icmp⟩)) (xB_n (xB_l ⟨_, zs_iconst (v := 1) em213_12 (by decide +kernel), as_const (by decide +kernel)⟩) (xB_n (xB_l ⟨_, zs_goto em213_13 (t := 17) (by decide), as_goto⟩) (xB_l ⟨_, zs_iconst (v := 0) em213_16 (by decide +kernel), as_const (by decide +kernel)⟩)))))
set_option maxRecDepth 100000 in
set_option maxHeartbeats 4000000 in
theorem zM_245 : zOKa 245 zc_245 := z_auto (cuts := []) (rets := [(17, 2)]) (fuel := 1000) rfl rfl (by decide) (xrt_ok (xR_c (Or.inr (Or.inl ⟨rfl, em213_17, rfl⟩)) (xR_n))) (fun _ _ H _ hd => zTo_245 H hd) (by decide +kernel)
/-! CapitalCaseModel.in:(III)Z -/
noncomputable def zTr_279 : Nat → Option aF := bn 6 (bn 2 (bn 1 (bl 0 (a_iload 0 1)) (bl 1 (a_iload 1 2))) (bn 5 (bl 2 (a_icmp 2 14 5)) (bl 5 (a_iload 0 6)))) (bn 10 (bn 7 (bl 6 (a_iload 2 7)) (bl 7 (a_icmp 4 14 10))) (bn 11 (bl 10 (a_const 1 11)) (bn 14 (bl 11 (a_goto 15)) (bl 14 (a_const 0 15)))))
set_option maxRecDepth 100000 in
set_option maxHeartbeats 4000000 in
theorem zTo_279 {pre : zPre} {post : zPost} (H : zTieC pre post) {d : Nat × Nat × Nat} (hd : zLe (0, 0, 0) d) : aTr zG0 zT0 zInv (false, false) PZ zbd pre post d prog_14_method_40_code "CapitalCaseModel" zTr_279 := (xB_n (xB_n (xB_n (xB_l ⟨_, zs_iload_n em148_0, as_iload⟩) (xB_l ⟨_, zs_iload_n em148_1, as_iload⟩)) (xB_n (xB_l ⟨_, zs_icmplt em148_2 (t := 14) (by decide), as_icmp⟩) (xB_l ⟨_, zs_iload_n em148_5, as_iload⟩))) (xB_n (xB_n (xB_l ⟨_, zs_iload_n em148_6, as_iload⟩) (xB_l ⟨_, zs_icmpgt em148_7 (t := 14) (by decide), as_icmp⟩)) (xB_n (xB_l ⟨_, zs_iconst (v := 1) em148_10 (by decide +kernel), as_const (by decide +kernel)⟩) (xB_n (xB_l ⟨_, zs_goto em148_11 (t := 15) (by decide), as_goto⟩) (xB_l ⟨_, zs_iconst (v := 0) em148_14 (by decide +kernel), as_const (by decide +kernel)⟩)))))
set_option maxRecDepth 100000 in
set_option maxHeartbeats 4000000 in
theorem zM_279 : zOKa 279 zc_279 := z_auto (cuts := []) (rets := [(15, 2)]) (fuel := 1000) rfl rfl (by decide) (xrt_ok (xR_c (Or.inr (Or.inl ⟨rfl, em148_15, rfl⟩)) (xR_n))) (fun _ _ H _ hd => zTo_279 H hd) (by decide +kernel)
