theorem em132_0 : decode prog_14_method_82_code 0 = .ok (.iload_n 1, 1) := by decide +kernel
theorem em132_1 : decode prog_14_method_82_code 1 = .ok (.invokestatic 430, 3) := by decide +kernel
theorem em132_4 : decode prog_14_method_82_code 4 = .ok (.ifCond .ne 5, 3) := by decide +kernel
theorem em132_7 : decode prog_14_method_82_code 7 = .ok (.iconst (-1), 1) := by decide +kernel
theorem em132_8 : decode prog_14_method_82_code 8 = .ok (.ireturn, 1) := by decide +kernel
theorem em132_9 : decode prog_14_method_82_code 9 = .ok (.iload_n 1, 1) := by decide +kernel
theorem em132_10 : decode prog_14_method_82_code 10 = .ok (.ifCond .ne 12, 3) := by decide +kernel
theorem em132_13 : decode prog_14_method_82_code 13 = .ok (.aload_n 0, 1) := by decide +kernel
theorem em132_14 : decode prog_14_method_82_code 14 = .ok (.getfield 113, 3) := by decide +kernel
theorem em132_17 : decode prog_14_method_82_code 17 = .ok (.sipush 386, 3) := by decide +kernel
theorem em132_20 : decode prog_14_method_82_code 20 = .ok (.iaload, 1) := by decide +kernel
theorem em132_21 : decode prog_14_method_82_code 21 = .ok (.ireturn, 1) := by decide +kernel
theorem em132_22 : decode prog_14_method_82_code 22 = .ok (.aload_n 0, 1) := by decide +kernel
theorem em132_23 : decode prog_14_method_82_code 23 = .ok (.invokevirtual 411, 3) := by decide +kernel
theorem em132_26 : decode prog_14_method_82_code 26 = .ok (.aload_n 0, 1) := by decide +kernel
theorem em132_27 : decode prog_14_method_82_code 27 = .ok (.iload_n 1, 1) := by decide +kernel
theorem em132_28 : decode prog_14_method_82_code 28 = .ok (.invokevirtual 433, 3) := by decide +kernel
theorem em132_31 : decode prog_14_method_82_code 31 = .ok (.aload_n 0, 1) := by decide +kernel
theorem em132_32 : decode prog_14_method_82_code 32 = .ok (.invokevirtual 424, 3) := by decide +kernel
theorem em132_35 : decode prog_14_method_82_code 35 = .ok (.aload_n 0, 1) := by decide +kernel
theorem em132_36 : decode prog_14_method_82_code 36 = .ok (.getfield 113, 3) := by decide +kernel
theorem em132_39 : decode prog_14_method_82_code 39 = .ok (.sipush 386, 3) := by decide +kernel
theorem em132_42 : decode prog_14_method_82_code 42 = .ok (.iaload, 1) := by decide +kernel
theorem em132_43 : decode prog_14_method_82_code 43 = .ok (.ireturn, 1) := by decide +kernel
/-! CapitalCaseModel.days:(I)I -/
noncomputable def zTr_139 : Nat → Option aF := bn 22 (bn 10 (bn 4 (bn 1 (bl 0 (a_iload 1 1)) (bl 1 (a_inv zG0 zprot (true, false) zc_178 (zbd 178) (9, 0, 0) 1 4))) (bn 7 (bl 4 (a_if 1 9 7)) (bn 9 (bl 7 (a_const (-1) 8)) (bl 9 (a_iload 1 10))))) (bn 14 (bn 13 (bl 10 (a_if 1 22 13)) (bl 13 (a_aload 0 14))) (bn 17 (bl 14 (a_getf zG0 zT0 12 1 17)) (bn 20 (bl 17 (a_const 386 20)) (bl 20 (a_ald zG0 zT0 (true, false) ts0 21)))))) (bn 31 (bn 26 (bn 23 (bl 22 (a_aload 0 23)) (bl 23 (a_invV zG0 zprot (true, false) zc_136 (zbd 136) (9, 0, 0) 12 1 26))) (bn 27 (bl 26 (a_aload 0 27)) (bn 28 (bl 27 (a_iload 1 28)) (bl 28 (a_invV zG0 zprot (true, false) zc_150 (zbd 150) (9, 0, 0) 12 2 31))))) (bn 36 (bn 32 (bl 31 (a_aload 0 32)) (bn 35 (bl 32 (a_invV zG0 zprot (true, false) zc_208 (zbd 208) (9, 0, 0) 12 1 35)) (bl 35 (a_aload 0 36)))) (bn 39 (bl 36 (a_getf zG0 zT0 12 1 39)) (bn 42 (bl 39 (a_const 386 42)) (bl 42 (a_ald zG0 zT0 (true, false) ts0 43))))))
set_option maxRecDepth 100000 in
set_option maxHeartbeats 4000000 in
theorem zTo_139 {pre : zPre} {post : zPost} (H : zTieC pre post) {d : Nat × Nat × Nat} (hd : zLe (9, 0, 0) d) : aTr zG0 zT0 zInv (true, false) PZ zbd pre post d prog_14_method_82_code "CapitalCaseModel" zTr_139 := (xB_n (xB_n (xB_n (xB_n (xB_l ⟨_, zs_iload_n em132_0, as_iload⟩) (xB_l ⟨_, zs_invS em132_1 zl_178 wd_1751 wd_1752 ((congrFun xo_12 430).trans rfl) xm_152, ag_inv H zh_178 hd (by decide)⟩)) (xB_n (xB_l ⟨_, zs_ifne em132_4 (t := 9) (by decide), as_if⟩) (xB_n (xB_l ⟨_, zs_iconst (v := (-1)) em132_7 (by decide +kernel), as_const (by decide +kernel)⟩) (xB_l ⟨_, zs_iload_n em132_9, as_iload⟩)))) (xB_n (xB_n (xB_l ⟨_, zs_ifne em132_10 (t := 22) (by decide), as_if⟩) (xB_l ⟨_, zs_aload_n em132_13, as_aload⟩)) (xB_n (xB_l ⟨_, zs_getf (T := TX12) (M := 70) (ci := 12) (j := 1) em132_14 rfl inX12 (by decide) wd_1331 ((congrFun xo_12 113).trans rfl), as_getf zTie⟩) (xB_n (xB_l ⟨_, zs_sipush (v := 386) em132_17 (by decide +kernel), as_const (by decide +kernel)⟩) (xB_l ⟨_, zs_iald em132_20, ag_iald⟩))))) (xB_n (xB_n (xB_n (xB_l ⟨_, zs_aload_n em132_22, as_aload⟩) (xB_l ⟨_, zs_invV (T := TX12) em132_23 zl_136 rfl wd_1635 wd_1637 wd_73 ((congrFun xo_12 411).trans rfl) xm_129, ag_invV H zh_136 hd (by decide)⟩)) (xB_n (xB_l ⟨_, zs_aload_n em132_26, as_aload⟩) (xB_n (xB_l ⟨_, zs_iload_n em132_27, as_iload⟩) (xB_l ⟨_, zs_invV (T := TX12) em132_28 zl_150 rfl wd_1754 wd_1756 wd_93 ((congrFun xo_12 433).trans rfl) xm_143, ag_invV H zh_150 hd (by decide)⟩)))) (xB_n (xB_n (xB_l ⟨_, zs_aload_n em132_31, as_aload⟩) (xB_n (xB_l ⟨_, zs_invV (T := TX12) em132_32 zl_208 rfl wd_1727 wd_1729 wd_91 ((congrFun xo_12 424).trans rfl) xm_181, ag_invV H zh_208 hd (by decide)⟩) (xB_l ⟨_, zs_aload_n em132_35, as_aload⟩))) (xB_n (xB_l ⟨_, zs_getf (T := TX12) (M := 70) (ci := 12) (j := 1) em132_36 rfl inX12 (by decide) wd_1331 ((congrFun xo_12 113).trans rfl), as_getf zTie⟩) (xB_n (xB_l ⟨_, zs_sipush (v := 386) em132_39 (by decide +kernel), as_const (by decide +kernel)⟩) (xB_l ⟨_, zs_iald em132_42, ag_iald⟩))))))
set_option maxRecDepth 100000 in
set_option maxHeartbeats 4000000 in
theorem zM_139 : zOKa 139 zc_139 := z_auto (cuts := []) (rets := [(8, 1), (21, 1), (43, 1)]) (fuel := 1000) rfl rfl (by decide) (xrt_ok (xR_c (Or.inl ⟨rfl, em132_8, rfl⟩) (xR_c (Or.inl ⟨rfl, em132_21, rfl⟩) (xR_c (Or.inl ⟨rfl, em132_43, rfl⟩) (xR_n))))) (fun _ _ H _ hd => zTo_139 H hd) (by decide +kernel)
theorem em133_0 : decode prog_14_method_15_code 0 = .ok (.aload_n 0, 1) := by decide +kernel
theorem em133_1 : decode prog_14_method_15_code 1 = .ok (.getfield 200, 3) := by decide +kernel
theorem em133_4 : decode prog_14_method_15_code 4 = .ok (.ifCond .le 4, 3) := by decide +kernel
theorem em133_7 : decode prog_14_method_15_code 7 = .ok (.return_, 1) := by decide +kernel
theorem em133_8 : decode prog_14_method_15_code 8 = .ok (.aload_n 0, 1) := by decide +kernel
theorem em133_9 : decode prog_14_method_15_code 9 = .ok (.iload_n 1, 1) := by decide +kernel
theorem em133_10 : decode prog_14_method_15_code 10 = .ok (.putfield 200, 3) := by decide +kernel
theorem em133_13 : decode prog_14_method_15_code 13 = .ok (.aload_n 0, 1) := by decide +kernel
theorem em133_14 : decode prog_14_method_15_code 14 = .ok (.aload_n 0, 1) := by decide +kernel
theorem em133_15 : decode prog_14_method_15_code 15 = .ok (.getfield 24, 3) := by decide +kernel
theorem em133_18 : decode prog_14_method_15_code 18 = .ok (.aload_n 0, 1) := by decide +kernel
theorem em133_19 : decode prog_14_method_15_code 19 = .ok (.getfield 203, 3) := by decide +kernel
theorem em133_22 : decode prog_14_method_15_code 22 = .ok (.iaload, 1) := by decide +kernel
theorem em133_23 : decode prog_14_method_15_code 23 = .ok (.putfield 206, 3) := by decide +kernel
theorem em133_26 : decode prog_14_method_15_code 26 = .ok (.return_, 1) := by decide +kernel
/-! CapitalCaseModel.fail:(I)V -/
noncomputable def zTr_140 : Nat → Option aF := bn 13 (bn 8 (bn 1 (bl 0 (a_aload 0 1)) (bn 4 (bl 1 (a_getf zG0 zT0 12 27 4)) (bl 4 (a_if 5 8 7)))) (bn 9 (bl 8 (a_aload 0 9)) (bn 10 (bl 9 (a_iload 1 10)) (bl 10 (a_puti zG0 zT0 zprot 12 27 0 13))))) (bn 18 (bn 14 (bl 13 (a_aload 0 14)) (bn 15 (bl 14 (a_aload 0 15)) (bl 15 (a_getf zG0 zT0 12 20 18)))) (bn 22 (bn 19 (bl 18 (a_aload 0 19)) (bl 19 (a_getf zG0 zT0 12 25 22))) (bn 23 (bl 22 (a_ald zG0 zT0 (false, false) ts0 23)) (bl 23 (a_puti zG0 zT0 zprot 12 28 0 26)))))
set_option maxRecDepth 100000 in
set_option maxHeartbeats 4000000 in
theorem zTo_140 {pre : zPre} {post : zPost} (H : zTieC pre post) {d : Nat × Nat × Nat} (hd : zLe (0, 0, 0) d) : aTr zG0 zT0 zInv (false, false) PZ zbd pre post d prog_14_method_15_code "CapitalCaseModel" zTr_140 := (xB_n (xB_n (xB_n (xB_l ⟨_, zs_aload_n em133_0, as_aload⟩) (xB_n (xB_l ⟨_, zs_getf (T := TX12) (M := 70) (ci := 12) (j := 27) em133_1 rfl inX12 (by decide) wd_1294 ((congrFun xo_12 200).trans rfl), as_getf zTie⟩) (xB_l ⟨_, zs_ifle em133_4 (t := 8) (by decide), as_if⟩))) (xB_n (xB_l ⟨_, zs_aload_n em133_8, as_aload⟩) (xB_n (xB_l ⟨_, zs_iload_n em133_9, as_iload⟩) (xB_l ⟨_, zs_puti zInj0 (T := TX12) (M := 70) (ty := tyX12) (ci := 12) (j := 27) (kd := 0) em133_10 rfl inX12 tyX12_ok nmX12 (by decide) wd_1294 (Or.inl ⟨rfl, rfl⟩) rfl ((congrFun xo_12 200).trans rfl), ag_puti0⟩)))) (xB_n (xB_n (xB_l ⟨_, zs_aload_n em133_13, as_aload⟩) (xB_n (xB_l ⟨_, zs_aload_n em133_14, as_aload⟩) (xB_l ⟨_, zs_getf (T := TX12) (M := 70) (ci := 12) (j := 20) em133_15 rfl inX12 (by decide) wd_1287 ((congrFun xo_12 24).trans rfl), as_getf zTie⟩))) (xB_n (xB_n (xB_l ⟨_, zs_aload_n em133_18, as_aload⟩) (xB_l ⟨_, zs_getf (T := TX12) (M := 70) (ci := 12) (j := 25) em133_19 rfl inX12 (by decide) wd_1292 ((congrFun xo_12 203).trans rfl), as_getf zTie⟩)) (xB_n (xB_l ⟨_, zs_iald em133_22, ag_iald⟩) (xB_l ⟨_, zs_puti zInj0 (T := TX12) (M := 70) (ty := tyX12) (ci := 12) (j := 28) (kd := 0) em133_23 rfl inX12 tyX12_ok nmX12 (by decide) wd_1295 (Or.inl ⟨rfl, rfl⟩) rfl ((congrFun xo_12 206).trans rfl), ag_puti0⟩)))))
set_option maxRecDepth 100000 in
set_option maxHeartbeats 4000000 in
theorem zM_140 : zOKa 140 zc_140 := z_auto (cuts := []) (rets := [(7, 3), (26, 3)]) (fuel := 1000) rfl rfl (by decide) (xrt_ok (xR_c (Or.inr (Or.inr (Or.inl ⟨rfl, em133_7, rfl⟩))) (xR_c (Or.inr (Or.inr (Or.inl ⟨rfl, em133_26, rfl⟩))) (xR_n)))) (fun _ _ H _ hd => zTo_140 H hd) (by decide +kernel)
theorem em134_0 : decode prog_14_method_3_code 0 = .ok (.aload_n 0, 1) := by decide +kernel
theorem em134_1 : decode prog_14_method_3_code 1 = .ok (.getfield 163, 3) := by decide +kernel
theorem em134_4 : decode prog_14_method_3_code 4 = .ok (.bipush 20, 2) := by decide +kernel
theorem em134_6 : decode prog_14_method_3_code 6 = .ok (.iadd, 1) := by decide +kernel
theorem em134_7 : decode prog_14_method_3_code 7 = .ok (.sipush 2000, 3) := by decide +kernel
theorem em134_10 : decode prog_14_method_3_code 10 = .ok (.if_icmp .le 5, 3) := by decide +kernel
theorem em134_13 : decode prog_14_method_3_code 13 = .ok (.iconst (-1), 1) := by decide +kernel
theorem em134_14 : decode prog_14_method_3_code 14 = .ok (.ireturn, 1) := by decide +kernel
theorem em134_15 : decode prog_14_method_3_code 15 = .ok (.aload_n 0, 1) := by decide +kernel
theorem em134_16 : decode prog_14_method_3_code 16 = .ok (.iload_n 1, 1) := by decide +kernel
theorem em134_17 : decode prog_14_method_3_code 17 = .ok (.invokevirtual 166, 3) := by decide +kernel
theorem em134_20 : decode prog_14_method_3_code 20 = .ok (.aload_n 0, 1) := by decide +kernel
theorem em134_21 : decode prog_14_method_3_code 21 = .ok (.iload_n 2, 1) := by decide +kernel
theorem em134_22 : decode prog_14_method_3_code 22 = .ok (.invokevirtual 166, 3) := by decide +kernel
theorem em134_25 : decode prog_14_method_3_code 25 = .ok (.aload_n 0, 1) := by decide +kernel
theorem em134_26 : decode prog_14_method_3_code 26 = .ok (.iload_n 3, 1) := by decide +kernel
theorem em134_27 : decode prog_14_method_3_code 27 = .ok (.invokevirtual 166, 3) := by decide +kernel
theorem em134_30 : decode prog_14_method_3_code 30 = .ok (.aload_n 0, 1) := by decide +kernel
theorem em134_31 : decode prog_14_method_3_code 31 = .ok (.iload 4, 2) := by decide +kernel
theorem em134_33 : decode prog_14_method_3_code 33 = .ok (.invokevirtual 166, 3) := by decide +kernel
theorem em134_36 : decode prog_14_method_3_code 36 = .ok (.aload_n 0, 1) := by decide +kernel
theorem em134_37 : decode prog_14_method_3_code 37 = .ok (.iload 5, 2) := by decide +kernel
theorem em134_39 : decode prog_14_method_3_code 39 = .ok (.invokevirtual 166, 3) := by decide +kernel
theorem em134_42 : decode prog_14_method_3_code 42 = .ok (.aload_n 0, 1) := by decide +kernel
theorem em134_43 : decode prog_14_method_3_code 43 = .ok (.getfield 163, 3) := by decide +kernel
theorem em134_46 : decode prog_14_method_3_code 46 = .ok (.ireturn, 1) := by decide +kernel
/-! CapitalCaseModel.feed:(IIIII)I -/
noncomputable def zTr_141 : Nat → Option aF := bn 22 (bn 13 (bn 6 (bn 1 (bl 0 (a_aload 0 1)) (bn 4 (bl 1 (a_getf zG0 zT0 12 12 4)) (bl 4 (a_const 20 6)))) (bn 7 (bl 6 (a_bin fadd 7)) (bn 10 (bl 7 (a_const 2000 10)) (bl 10 (a_icmp 5 15 13))))) (bn 17 (bn 15 (bl 13 (a_const (-1) 14)) (bn 16 (bl 15 (a_aload 0 16)) (bl 16 (a_iload 1 17)))) (bn 20 (bl 17 (a_invV zG0 zprot (false, false) zc_205 (zbd 205) (1, 0, 0) 12 2 20)) (bn 21 (bl 20 (a_aload 0 21)) (bl 21 (a_iload 2 22)))))) (bn 33 (bn 27 (bn 25 (bl 22 (a_invV zG0 zprot (false, false) zc_205 (zbd 205) (1, 0, 0) 12 2 25)) (bn 26 (bl 25 (a_aload 0 26)) (bl 26 (a_iload 3 27)))) (bn 30 (bl 27 (a_invV zG0 zprot (false, false) zc_205 (zbd 205) (1, 0, 0) 12 2 30)) (bn 31 (bl 30 (a_aload 0 31)) (bl 31 (a_iload 4 33))))) (bn 39 (bn 36 (bl 33 (a_invV zG0 zprot (false, false) zc_205 (zbd 205) (1, 0, 0) 12 2 36)) (bn 37 (bl 36 (a_aload 0 37)) (bl 37 (a_iload 5 39)))) (bn 42 (bl 39 (a_invV zG0 zprot (false, false) zc_205 (zbd 205) (1, 0, 0) 12 2 42)) (bn 43 (bl 42 (a_aload 0 43)) (bl 43 (a_getf zG0 zT0 12 12 46))))))
set_option maxRecDepth 100000 in
set_option maxHeartbeats 4000000 in
theorem zTo_141 {pre : zPre} {post : zPost} (H : zTieC pre post) {d : Nat × Nat × Nat} (hd : zLe (1, 0, 0) d) : aTr zG0 zT0 zInv (false, false) PZ zbd pre post d prog_14_method_3_code "CapitalCaseModel" zTr_141 := (xB_n (xB_n (xB_n (xB_n (xB_l ⟨_, zs_aload_n em134_0, as_aload⟩) (xB_n (xB_l ⟨_, zs_getf (T := TX12) (M := 70) (ci := 12) (j := 12) em134_1 rfl inX12 (by decide) wd_1283 ((congrFun xo_12 163).trans rfl), as_getf zTie⟩) (xB_l ⟨_, zs_bipush (v := 20) em134_4 (by decide +kernel), as_const (by decide +kernel)⟩))) (xB_n (xB_l ⟨_, zs_iadd em134_6, as_bin fadd_ok⟩) (xB_n (xB_l ⟨_, zs_sipush (v := 2000) em134_7 (by decide +kernel), as_const (by decide +kernel)⟩) (xB_l ⟨_, zs_icmple em134_10 (t := 15) (by decide), as_icmp⟩)))) (xB_n (xB_n (xB_l ⟨_, zs_iconst (v := (-1)) em134_13 (by decide +kernel), as_const (by decide +kernel)⟩) (xB_n (xB_l ⟨_, zs_aload_n em134_15, as_aload⟩) (xB_l ⟨_, zs_iload_n em134_16, as_iload⟩))) (xB_n (xB_l ⟨_, zs_invV (T := TX12) em134_17 zl_205 rfl wd_1497 wd_1499 wd_47 ((congrFun xo_12 166).trans rfl) xm_178, ag_invV H zh_205 hd (by decide)⟩) (xB_n (xB_l ⟨_, zs_aload_n em134_20, as_aload⟩) (xB_l ⟨_, zs_iload_n em134_21, as_iload⟩))))) (xB_n (xB_n (xB_n (xB_l ⟨_, zs_invV (T := TX12) em134_22 zl_205 rfl wd_1497 wd_1499 wd_47 ((congrFun xo_12 166).trans rfl) xm_178, ag_invV H zh_205 hd (by decide)⟩) (xB_n (xB_l ⟨_, zs_aload_n em134_25, as_aload⟩) (xB_l ⟨_, zs_iload_n em134_26, as_iload⟩))) (xB_n (xB_l ⟨_, zs_invV (T := TX12) em134_27 zl_205 rfl wd_1497 wd_1499 wd_47 ((congrFun xo_12 166).trans rfl) xm_178, ag_invV H zh_205 hd (by decide)⟩) (xB_n (xB_l ⟨_, zs_aload_n em134_30, as_aload⟩) (xB_l ⟨_, zs_iload em134_31, as_iload⟩)))) (xB_n (xB_n (xB_l ⟨_, zs_invV (T := TX12) em134_33 zl_205 rfl wd_1497 wd_1499 wd_47 ((congrFun xo_12 166).trans rfl) xm_178, ag_invV H zh_205 hd (by decide)⟩) (xB_n (xB_l ⟨_, zs_aload_n em134_36, as_aload⟩) (xB_l ⟨_, zs_iload em134_37, as_iload⟩))) (xB_n (xB_l ⟨_, zs_invV (T := TX12) em134_39 zl_205 rfl wd_1497 wd_1499 wd_47 ((congrFun xo_12 166).trans rfl) xm_178, ag_invV H zh_205 hd (by decide)⟩) (xB_n (xB_l ⟨_, zs_aload_n em134_42, as_aload⟩) (xB_l ⟨_, zs_getf (T := TX12) (M := 70) (ci := 12) (j := 12) em134_43 rfl inX12 (by decide) wd_1283 ((congrFun xo_12 163).trans rfl), as_getf zTie⟩))))))
set_option maxRecDepth 100000 in
set_option maxHeartbeats 4000000 in
theorem zM_141 : zOKa 141 zc_141 := z_auto (cuts := []) (rets := [(14, 1), (46, 1)]) (fuel := 1000) rfl rfl (by decide) (xrt_ok (xR_c (Or.inl ⟨rfl, em134_14, rfl⟩) (xR_c (Or.inl ⟨rfl, em134_46, rfl⟩) (xR_n)))) (fun _ _ H _ hd => zTo_141 H hd) (by decide +kernel)
theorem em135_0 : decode prog_14_method_87_code 0 = .ok (.aload_n 0, 1) := by decide +kernel
theorem em135_1 : decode prog_14_method_87_code 1 = .ok (.invokevirtual 436, 3) := by decide +kernel
theorem em135_4 : decode prog_14_method_87_code 4 = .ok (.istore_n 1, 1) := by decide +kernel
theorem em135_5 : decode prog_14_method_87_code 5 = .ok (.aload_n 0, 1) := by decide +kernel
theorem em135_6 : decode prog_14_method_87_code 6 = .ok (.invokevirtual 439, 3) := by decide +kernel
theorem em135_9 : decode prog_14_method_87_code 9 = .ok (.iconst 0, 1) := by decide +kernel
theorem em135_10 : decode prog_14_method_87_code 10 = .ok (.istore_n 2, 1) := by decide +kernel
theorem em135_11 : decode prog_14_method_87_code 11 = .ok (.iload_n 2, 1) := by decide +kernel
theorem em135_12 : decode prog_14_method_87_code 12 = .ok (.aload_n 0, 1) := by decide +kernel
theorem em135_13 : decode prog_14_method_87_code 13 = .ok (.getfield 49, 3) := by decide +kernel
theorem em135_16 : decode prog_14_method_87_code 16 = .ok (.aload_n 0, 1) := by decide +kernel
theorem em135_17 : decode prog_14_method_87_code 17 = .ok (.getfield 230, 3) := by decide +kernel
theorem em135_20 : decode prog_14_method_87_code 20 = .ok (.iaload, 1) := by decide +kernel
theorem em135_21 : decode prog_14_method_87_code 21 = .ok (.if_icmp .ge 20, 3) := by decide +kernel
theorem em135_24 : decode prog_14_method_87_code 24 = .ok (.aload_n 0, 1) := by decide +kernel
theorem em135_25 : decode prog_14_method_87_code 25 = .ok (.getfield 125, 3) := by decide +kernel
theorem em135_28 : decode prog_14_method_87_code 28 = .ok (.iload_n 2, 1) := by decide +kernel
theorem em135_29 : decode prog_14_method_87_code 29 = .ok (.aload_n 0, 1) := by decide +kernel
theorem em135_30 : decode prog_14_method_87_code 30 = .ok (.iload_n 2, 1) := by decide +kernel
theorem em135_31 : decode prog_14_method_87_code 31 = .ok (.invokevirtual 386, 3) := by decide +kernel
theorem em135_34 : decode prog_14_method_87_code 34 = .ok (.iastore, 1) := by decide +kernel
theorem em135_35 : decode prog_14_method_87_code 35 = .ok (.iinc 2 1, 3) := by decide +kernel
theorem em135_38 : decode prog_14_method_87_code 38 = .ok (.goto (-27), 3) := by decide +kernel
theorem em135_41 : decode prog_14_method_87_code 41 = .ok (.aload_n 0, 1) := by decide +kernel
theorem em135_42 : decode prog_14_method_87_code 42 = .ok (.iconst 0, 1) := by decide +kernel
theorem em135_43 : decode prog_14_method_87_code 43 = .ok (.putfield 442, 3) := by decide +kernel
theorem em135_46 : decode prog_14_method_87_code 46 = .ok (.aload_n 0, 1) := by decide +kernel
theorem em135_47 : decode prog_14_method_87_code 47 = .ok (.iconst 0, 1) := by decide +kernel
theorem em135_48 : decode prog_14_method_87_code 48 = .ok (.putfield 445, 3) := by decide +kernel
theorem em135_51 : decode prog_14_method_87_code 51 = .ok (.iconst 1, 1) := by decide +kernel
theorem em135_52 : decode prog_14_method_87_code 52 = .ok (.istore_n 2, 1) := by decide +kernel
theorem em135_53 : decode prog_14_method_87_code 53 = .ok (.iload_n 2, 1) := by decide +kernel
theorem em135_54 : decode prog_14_method_87_code 54 = .ok (.iconst 1, 1) := by decide +kernel
theorem em135_55 : decode prog_14_method_87_code 55 = .ok (.aload_n 0, 1) := by decide +kernel
theorem em135_56 : decode prog_14_method_87_code 56 = .ok (.getfield 49, 3) := by decide +kernel
theorem em135_59 : decode prog_14_method_87_code 59 = .ok (.aload_n 0, 1) := by decide +kernel
theorem em135_60 : decode prog_14_method_87_code 60 = .ok (.getfield 230, 3) := by decide +kernel
theorem em135_63 : decode prog_14_method_87_code 63 = .ok (.iaload, 1) := by decide +kernel
theorem em135_64 : decode prog_14_method_87_code 64 = .ok (.ishl, 1) := by decide +kernel
theorem em135_65 : decode prog_14_method_87_code 65 = .ok (.if_icmp .ge 94, 3) := by decide +kernel
theorem em135_68 : decode prog_14_method_87_code 68 = .ok (.iload_n 2, 1) := by decide +kernel
theorem em135_69 : decode prog_14_method_87_code 69 = .ok (.iload_n 1, 1) := by decide +kernel
theorem em135_70 : decode prog_14_method_87_code 70 = .ok (.iconst (-1), 1) := by decide +kernel
theorem em135_71 : decode prog_14_method_87_code 71 = .ok (.ixor, 1) := by decide +kernel
theorem em135_72 : decode prog_14_method_87_code 72 = .ok (.iand, 1) := by decide +kernel
theorem em135_73 : decode prog_14_method_87_code 73 = .ok (.ifCond .eq 6, 3) := by decide +kernel
theorem em135_76 : decode prog_14_method_87_code 76 = .ok (.goto 77, 3) := by decide +kernel
theorem em135_79 : decode prog_14_method_87_code 79 = .ok (.iconst 0, 1) := by decide +kernel
theorem em135_80 : decode prog_14_method_87_code 80 = .ok (.istore_n 3, 1) := by decide +kernel
theorem em135_81 : decode prog_14_method_87_code 81 = .ok (.iconst 0, 1) := by decide +kernel
theorem em135_82 : decode prog_14_method_87_code 82 = .ok (.istore 4, 2) := by decide +kernel
theorem em135_84 : decode prog_14_method_87_code 84 = .ok (.iload 4, 2) := by decide +kernel
theorem em135_86 : decode prog_14_method_87_code 86 = .ok (.aload_n 0, 1) := by decide +kernel
theorem em135_87 : decode prog_14_method_87_code 87 = .ok (.getfield 49, 3) := by decide +kernel
theorem em135_90 : decode prog_14_method_87_code 90 = .ok (.aload_n 0, 1) := by decide +kernel
theorem em135_91 : decode prog_14_method_87_code 91 = .ok (.getfield 230, 3) := by decide +kernel
theorem em135_94 : decode prog_14_method_87_code 94 = .ok (.iaload, 1) := by decide +kernel
theorem em135_95 : decode prog_14_method_87_code 95 = .ok (.if_icmp .ge 29, 3) := by decide +kernel
theorem em135_98 : decode prog_14_method_87_code 98 = .ok (.iload_n 2, 1) := by decide +kernel
theorem em135_99 : decode prog_14_method_87_code 99 = .ok (.iload 4, 2) := by decide +kernel
theorem em135_101 : decode prog_14_method_87_code 101 = .ok (.ishr, 1) := by decide +kernel
theorem em135_102 : decode prog_14_method_87_code 102 = .ok (.iconst 1, 1) := by decide +kernel
theorem em135_103 : decode prog_14_method_87_code 103 = .ok (.iand, 1) := by decide +kernel
theorem em135_104 : decode prog_14_method_87_code 104 = .ok (.iconst 1, 1) := by decide +kernel
theorem em135_105 : decode prog_14_method_87_code 105 = .ok (.if_icmp .ne 13, 3) := by decide +kernel
theorem em135_108 : decode prog_14_method_87_code 108 = .ok (.iload_n 3, 1) := by decide +kernel
theorem em135_109 : decode prog_14_method_87_code 109 = .ok (.aload_n 0, 1) := by decide +kernel
theorem em135_110 : decode prog_14_method_87_code 110 = .ok (.getfield 125, 3) := by decide +kernel
theorem em135_113 : decode prog_14_method_87_code 113 = .ok (.iload 4, 2) := by decide +kernel
theorem em135_115 : decode prog_14_method_87_code 115 = .ok (.iaload, 1) := by decide +kernel
theorem em135_116 : decode prog_14_method_87_code 116 = .ok (.iadd, 1) := by decide +kernel
theorem em135_117 : decode prog_14_method_87_code 117 = .ok (.istore_n 3, 1) := by decide +kernel
theorem em135_118 : decode prog_14_method_87_code 118 = .ok (.iinc 4 1, 3) := by decide +kernel
theorem em135_121 : decode prog_14_method_87_code 121 = .ok (.goto (-37), 3) := by decide +kernel
theorem em135_124 : decode prog_14_method_87_code 124 = .ok (.iload_n 3, 1) := by decide +kernel
theorem em135_125 : decode prog_14_method_87_code 125 = .ok (.aload_n 0, 1) := by decide +kernel
theorem em135_126 : decode prog_14_method_87_code 126 = .ok (.getfield 442, 3) := by decide +kernel
theorem em135_129 : decode prog_14_method_87_code 129 = .ok (.if_icmp .le 24, 3) := by decide +kernel
theorem em135_132 : decode prog_14_method_87_code 132 = .ok (.aload_n 0, 1) := by decide +kernel
theorem em135_133 : decode prog_14_method_87_code 133 = .ok (.iload_n 2, 1) := by decide +kernel
theorem em135_134 : decode prog_14_method_87_code 134 = .ok (.invokevirtual 448, 3) := by decide +kernel
theorem em135_137 : decode prog_14_method_87_code 137 = .ok (.ifCond .ne 6, 3) := by decide +kernel
theorem em135_140 : decode prog_14_method_87_code 140 = .ok (.goto 13, 3) := by decide +kernel
theorem em135_143 : decode prog_14_method_87_code 143 = .ok (.aload_n 0, 1) := by decide +kernel
theorem em135_144 : decode prog_14_method_87_code 144 = .ok (.iload_n 3, 1) := by decide +kernel
theorem em135_145 : decode prog_14_method_87_code 145 = .ok (.putfield 442, 3) := by decide +kernel
theorem em135_148 : decode prog_14_method_87_code 148 = .ok (.aload_n 0, 1) := by decide +kernel
theorem em135_149 : decode prog_14_method_87_code 149 = .ok (.iload_n 2, 1) := by decide +kernel
theorem em135_150 : decode prog_14_method_87_code 150 = .ok (.putfield 445, 3) := by decide +kernel
theorem em135_153 : decode prog_14_method_87_code 153 = .ok (.iinc 2 1, 3) := by decide +kernel
theorem em135_156 : decode prog_14_method_87_code 156 = .ok (.goto (-103), 3) := by decide +kernel
theorem em135_159 : decode prog_14_method_87_code 159 = .ok (.return_, 1) := by decide +kernel
/-! CapitalCaseModel.findsBest:()V -/
noncomputable def zTr_142 : Nat → Option aF := bn 73 (bn 38 (bn 17 (bn 9 (bn 4 (bn 1 (bl 0 (a_aload 0 1)) (bl 1 (a_invV zG0 zprot (true, false) zc_199 (zbd 199) (10, 0, 0) 12 1 4))) (bn 5 (bl 4 (a_istore 1 5)) (bn 6 (bl 5 (a_aload 0 6)) (bl 6 (a_invV zG0 zprot (true, false) zc_182 (zbd 182) (10, 0, 0) 12 1 9))))) (bn 12 (bn 10 (bl 9 (a_const 0 10)) (bn 11 (bl 10 (a_istore 2 11)) (bl 11 (a_iload 2 12)))) (bn 13 (bl 12 (a_aload 0 13)) (bn 16 (bl 13 (a_getf zG0 zT0 12 4 16)) (bl 16 (a_aload 0 17)))))) (bn 28 (bn 21 (bn 20 (bl 17 (a_getf zG0 zT0 12 2 20)) (bl 20 (a_ald zG0 zT0 (true, false) ts0 21))) (bn 24 (bl 21 (a_icmp 3 41 24)) (bn 25 (bl 24 (a_aload 0 25)) (bl 25 (a_getf zG0 zT0 12 14 28))))) (bn 31 (bn 29 (bl 28 (a_iload 2 29)) (bn 30 (bl 29 (a_aload 0 30)) (bl 30 (a_iload 2 31)))) (bn 34 (bl 31 (a_invV zG0 zprot (true, false) zc_202 (zbd 202) (10, 0, 0) 12 2 34)) (bn 35 (bl 34 (a_ast zG0 zT0 ts0 35)) (bl 35 (a_iinc 2 1 38))))))) (bn 55 (bn 47 (bn 42 (bn 41 (bl 38 (a_goto 11)) (bl 41 (a_aload 0 42))) (bn 43 (bl 42 (a_const 0 43)) (bn 46 (bl 43 (a_puti zG0 zT0 zprot 12 62 0 46)) (bl 46 (a_aload 0 47))))) (bn 52 (bn 48 (bl 47 (a_const 0 48)) (bn 51 (bl 48 (a_puti zG0 zT0 zprot 12 63 0 51)) (bl 51 (a_const 1 52)))) (bn 53 (bl 52 (a_istore 2 53)) (bn 54 (bl 53 (a_iload 2 54)) (bl 54 (a_const 1 55)))))) (bn 65 (bn 60 (bn 56 (bl 55 (a_aload 0 56)) (bn 59 (bl 56 (a_getf zG0 zT0 12 4 59)) (bl 59 (a_aload 0 60)))) (bn 63 (bl 60 (a_getf zG0 zT0 12 2 63)) (bn 64 (bl 63 (a_ald zG0 zT0 (true, false) ts0 64)) (bl 64 (a_bin fshl 65))))) (bn 70 (bn 68 (bl 65 (a_icmp 3 159 68)) (bn 69 (bl 68 (a_iload 2 69)) (bl 69 (a_iload 1 70)))) (bn 71 (bl 70 (a_const (-1) 71)) (bn 72 (bl 71 (a_bin fany 72)) (bl 72 (a_bin fand 73)))))))) (bn 113 (bn 94 (bn 82 (bn 79 (bn 76 (bl 73 (a_if 0 79 76)) (bl 76 (a_goto 153))) (bn 80 (bl 79 (a_const 0 80)) (bn 81 (bl 80 (a_istore 3 81)) (bl 81 (a_const 0 82))))) (bn 87 (bn 84 (bl 82 (a_istore 4 84)) (bn 86 (bl 84 (a_iload 4 86)) (bl 86 (a_aload 0 87)))) (bn 90 (bl 87 (a_getf zG0 zT0 12 4 90)) (bn 91 (bl 90 (a_aload 0 91)) (bl 91 (a_getf zG0 zT0 12 2 94)))))) (bn 103 (bn 99 (bn 95 (bl 94 (a_ald zG0 zT0 (true, false) ts0 95)) (bn 98 (bl 95 (a_icmp 3 124 98)) (bl 98 (a_iload 2 99)))) (bn 101 (bl 99 (a_iload 4 101)) (bn 102 (bl 101 (a_bin fany 102)) (bl 102 (a_const 1 103))))) (bn 108 (bn 104 (bl 103 (a_bin fand 104)) (bn 105 (bl 104 (a_const 1 105)) (bl 105 (a_icmp 1 118 108)))) (bn 109 (bl 108 (a_iload 3 109)) (bn 110 (bl 109 (a_aload 0 110)) (bl 110 (a_getf zG0 zT0 12 14 113))))))) (bn 133 (bn 121 (bn 116 (bn 115 (bl 113 (a_iload 4 115)) (bl 115 (a_ald zG0 zT0 (true, false) ts0 116))) (bn 117 (bl 116 (a_bin fadd 117)) (bn 118 (bl 117 (a_istore 3 118)) (bl 118 (a_iinc 4 1 121))))) (bn 126 (bn 124 (bl 121 (a_goto 84)) (bn 125 (bl 124 (a_iload 3 125)) (bl 125 (a_aload 0 126)))) (bn 129 (bl 126 (a_getf zG0 zT0 12 62 129)) (bn 132 (bl 129 (a_icmp 5 153 132)) (bl 132 (a_aload 0 133)))))) (bn 145 (bn 140 (bn 134 (bl 133 (a_iload 2 134)) (bn 137 (bl 134 (a_invV zG0 zprot (true, false) zc_132 (zbd 132) (10, 0, 0) 12 2 137)) (bl 137 (a_if 1 143 140)))) (bn 143 (bl 140 (a_goto 153)) (bn 144 (bl 143 (a_aload 0 144)) (bl 144 (a_iload 3 145))))) (bn 150 (bn 148 (bl 145 (a_puti zG0 zT0 zprot 12 62 0 148)) (bn 149 (bl 148 (a_aload 0 149)) (bl 149 (a_iload 2 150)))) (bn 153 (bl 150 (a_puti zG0 zT0 zprot 12 63 0 153)) (bn 156 (bl 153 (a_iinc 2 1 156)) (bl 156 (a_goto 53))))))))
set_option maxRecDepth 100000 in
set_option maxHeartbeats 4000000 in
theorem zTo_142 {pre : zPre} {post : zPost} (H : zTieC pre post) {d : Nat × Nat × Nat} (hd : zLe (10, 0, 0) d) : aTr zG0 zT0 zInv (true, false) PZ zbd pre post d prog_14_method_87_code "CapitalCaseModel" zTr_142 := (xB_n (xB_n (xB_n (xB_n (xB_n (xB_n (xB_l ⟨_, zs_aload_n em135_0, as_aload⟩) (xB_l ⟨_, zs_invV (T := TX12) em135_1 zl_199 rfl wd_1798 wd_1800 wd_100 ((congrFun xo_12 436).trans rfl) xm_172, ag_invV H zh_199 hd (by decide)⟩)) (xB_n (xB_l ⟨_, zs_istore_n em135_4, as_istore⟩) (xB_n (xB_l ⟨_, zs_aload_n em135_5, as_aload⟩) (xB_l ⟨_, zs_invV (T := TX12) em135_6 zl_182 rfl wd_1802 wd_1804 wd_101 ((congrFun xo_12 439).trans rfl) xm_156, ag_invV H zh_182 hd (by decide)⟩)))) (xB_n (xB_n (xB_l ⟨_, zs_iconst (v := 0) em135_9 (by decide +kernel), as_const (by decide +kernel)⟩) (xB_n (xB_l ⟨_, zs_istore_n em135_10, as_istore⟩) (xB_l ⟨_, zs_iload_n em135_11, as_iload⟩))) (xB_n (xB_l ⟨_, zs_aload_n em135_12, as_aload⟩) (xB_n (xB_l ⟨_, zs_getf (T := TX12) (M := 70) (ci := 12) (j := 4) em135_13 rfl inX12 (by decide) wd_1305 ((congrFun xo_12 49).trans rfl), as_getf zTie⟩) (xB_l ⟨_, zs_aload_n em135_16, as_aload⟩))))) (xB_n (xB_n (xB_n (xB_l ⟨_, zs_getf (T := TX12) (M := 70) (ci := 12) (j := 2) em135_17 rfl inX12 (by decide) wd_1299 ((congrFun xo_12 230).trans rfl), as_getf zTie⟩) (xB_l ⟨_, zs_iald em135_20, ag_iald⟩)) (xB_n (xB_l ⟨_, zs_icmpge em135_21 (t := 41) (by decide), as_icmp⟩) (xB_n (xB_l ⟨_, zs_aload_n em135_24, as_aload⟩) (xB_l ⟨_, zs_getf (T := TX12) (M := 70) (ci := 12) (j := 14) em135_25 rfl inX12 (by decide) wd_1339 ((congrFun xo_12 125).trans rfl), as_getf zTie⟩)))) (xB_n (xB_n (xB_l ⟨_, zs_iload_n em135_28, as_iload⟩) (xB_n (xB_l ⟨_, zs_aload_n em135_29, as_aload⟩) (xB_l ⟨_, zs_iload_n em135_30, as_iload⟩))) (xB_n (xB_l ⟨_, zs_invV (T := TX12) em135_31 zl_202 rfl wd_1682 wd_1684 wd_83 ((congrFun xo_12 386).trans rfl) xm_175, ag_invV H zh_202 hd (by decide)⟩) (xB_n (xB_l ⟨_, zs_iast zInj0 em135_34, as_iast zTie⟩) (xB_l ⟨_, zs_iinc (k := 1) em135_35 (by decide +kernel), as_iinc (by decide +kernel)⟩)))))) (xB_n (xB_n (xB_n (xB_n (xB_l ⟨_, zs_goto em135_38 (t := 11) (by decide), as_goto⟩) (xB_l ⟨_, zs_aload_n em135_41, as_aload⟩)) (xB_n (xB_l ⟨_, zs_iconst (v := 0) em135_42 (by decide +kernel), as_const (by decide +kernel)⟩) (xB_n (xB_l ⟨_, zs_puti zInj0 (T := TX12) (M := 70) (ty := tyX12) (ci := 12) (j := 62) (kd := 0) em135_43 rfl inX12 tyX12_ok nmX12 (by decide) wd_1343 (Or.inl ⟨rfl, rfl⟩) rfl ((congrFun xo_12 442).trans rfl), ag_puti0⟩) (xB_l ⟨_, zs_aload_n em135_46, as_aload⟩)))) (xB_n (xB_n (xB_l ⟨_, zs_iconst (v := 0) em135_47 (by decide +kernel), as_const (by decide +kernel)⟩) (xB_n (xB_l ⟨_, zs_puti zInj0 (T := TX12) (M := 70) (ty := tyX12) (ci := 12) (j := 63) (kd := 0) em135_48 rfl inX12 tyX12_ok nmX12 (by decide) wd_1344 (Or.inl ⟨rfl, rfl⟩) rfl ((congrFun xo_12 445).trans rfl), ag_puti0⟩) (xB_l ⟨_, zs_iconst (v := 1) em135_51 (by decide +kernel), as_const (by decide +kernel)⟩))) (xB_n (xB_l ⟨_, zs_istore_n em135_52, as_istore⟩) (xB_n (xB_l ⟨_, zs_iload_n em135_53, as_iload⟩) (xB_l ⟨_, zs_iconst (v := 1) em135_54 (by decide +kernel), as_const (by decide +kernel)⟩))))) (xB_n (xB_n (xB_n (xB_l ⟨_, zs_aload_n em135_55, as_aload⟩) (xB_n (xB_l ⟨_, zs_getf (T := TX12) (M := 70) (ci := 12) (j := 4) em135_56 rfl inX12 (by decide) wd_1305 ((congrFun xo_12 49).trans rfl), as_getf zTie⟩) (xB_l ⟨_, zs_aload_n em135_59, as_aload⟩))) (xB_n (xB_l ⟨_, zs_getf (T := TX12) (M := 70) (ci := 12) (j := 2) em135_60 rfl inX12 (by decide) wd_1299 ((congrFun xo_12 230).trans rfl), as_getf zTie⟩) (xB_n (xB_l ⟨_, zs_iald em135_63, ag_iald⟩) (xB_l ⟨_, zs_ishl em135_64, as_bin fshl_ok⟩)))) (xB_n (xB_n (xB_l ⟨_, zs_icmpge em135_65 (t := 159) (by decide), as_icmp⟩) (xB_n (xB_l ⟨_, zs_iload_n em135_68, as_iload⟩) (xB_l ⟨_, zs_iload_n em135_69, as_iload⟩))) (xB_n (xB_l ⟨_, zs_iconst (v := (-1)) em135_70 (by decide +kernel), as_const (by decide +kernel)⟩) (xB_n (xB_l ⟨_, zs_ixor em135_71, as_bin fany_ok⟩) (xB_l ⟨_, zs_iand em135_72, as_bin fand_ok⟩))))))) (xB_n (xB_n (xB_n (xB_n (xB_n (xB_l ⟨_, zs_ifeq em135_73 (t := 79) (by decide), as_if⟩) (xB_l ⟨_, zs_goto em135_76 (t := 153) (by decide), as_goto⟩)) (xB_n (xB_l ⟨_, zs_iconst (v := 0) em135_79 (by decide +kernel), as_const (by decide +kernel)⟩) (xB_n (xB_l ⟨_, zs_istore_n em135_80, as_istore⟩) (xB_l ⟨_, zs_iconst (v := 0) em135_81 (by decide +kernel), as_const (by decide +kernel)⟩)))) (xB_n (xB_n (xB_l ⟨_, zs_istore em135_82, as_istore⟩) (xB_n (xB_l ⟨_, zs_iload em135_84, as_iload⟩) (xB_l ⟨_, zs_aload_n em135_86, as_aload⟩))) (xB_n (xB_l ⟨_, zs_getf (T := TX12) (M := 70) (ci := 12) (j := 4) em135_87 rfl inX12 (by decide) wd_1305 ((congrFun xo_12 49).trans rfl), as_getf zTie⟩) (xB_n (xB_l ⟨_, zs_aload_n em135_90, as_aload⟩) (xB_l ⟨_, zs_getf (T := TX12) (M := 70) (ci := 12) (j := 2) em135_91 rfl inX12 (by decide) wd_1299 ((congrFun xo_12 230).trans rfl), as_getf zTie⟩))))) (xB_n (xB_n (xB_n (xB_l ⟨_, zs_iald em135_94, ag_iald⟩) (xB_n (xB_l ⟨_, zs_icmpge em135_95 (t := 124) (by decide), as_icmp⟩) (xB_l ⟨_, zs_iload_n em135_98, as_iload⟩))) (xB_n (xB_l ⟨_, zs_iload em135_99, as_iload⟩) (xB_n (xB_l ⟨_, zs_ishr em135_101, as_bin fany_ok⟩) (xB_l ⟨_, zs_iconst (v := 1) em135_102 (by decide +kernel), as_const (by decide +kernel)⟩)))) (xB_n (xB_n (xB_l ⟨_, zs_iand em135_103, as_bin fand_ok⟩) (xB_n (xB_l ⟨_, zs_iconst (v := 1) em135_104 (by decide +kernel), as_const (by decide +kernel)⟩) (xB_l ⟨_, zs_icmpne em135_105 (t := 118) (by decide), as_icmp⟩))) (xB_n (xB_l ⟨_, zs_iload_n em135_108, as_iload⟩) (xB_n (xB_l ⟨_, zs_aload_n em135_109, as_aload⟩) (xB_l ⟨_, zs_getf (T := TX12) (M := 70) (ci := 12) (j := 14) em135_110 rfl inX12 (by decide) wd_1339 ((congrFun xo_12 125).trans rfl), as_getf zTie⟩)))))) (xB_n (xB_n (xB_n (xB_n (xB_l ⟨_, zs_iload em135_113, as_iload⟩) (xB_l ⟨_, zs_iald em135_115, ag_iald⟩)) (xB_n (xB_l ⟨_, zs_iadd em135_116, as_bin fadd_ok⟩) (xB_n (xB_l ⟨_, zs_istore_n em135_117, as_istore⟩) (xB_l ⟨_, zs_iinc (k := 1) em135_118 (by decide +kernel), as_iinc (by decide +kernel)⟩)))) (xB_n (xB_n (xB_l ⟨_, zs_goto em135_121 (t := 84) (by decide), as_goto⟩) (xB_n (xB_l ⟨_, zs_iload_n em135_124, as_iload⟩) (xB_l ⟨_, zs_aload_n em135_125, as_aload⟩))) (xB_n (xB_l ⟨_, zs_getf (T := TX12) (M := 70) (ci := 12) (j := 62) em135_126 rfl inX12 (by decide) wd_1343 ((congrFun xo_12 442).trans rfl), as_getf zTie⟩) (xB_n (xB_l ⟨_, zs_icmple em135_129 (t := 153) (by decide), as_icmp⟩) (xB_l ⟨_, zs_aload_n em135_132, as_aload⟩))))) (xB_n (xB_n (xB_n (xB_l ⟨_, zs_iload_n em135_133, as_iload⟩) (xB_n (xB_l ⟨_, zs_invV (T := TX12) em135_134 zl_132 rfl wd_1806 wd_1808 wd_102 ((congrFun xo_12 448).trans rfl) xm_125, ag_invV H zh_132 hd (by decide)⟩) (xB_l ⟨_, zs_ifne em135_137 (t := 143) (by decide), as_if⟩))) (xB_n (xB_l ⟨_, zs_goto em135_140 (t := 153) (by decide), as_goto⟩) (xB_n (xB_l ⟨_, zs_aload_n em135_143, as_aload⟩) (xB_l ⟨_, zs_iload_n em135_144, as_iload⟩)))) (xB_n (xB_n (xB_l ⟨_, zs_puti zInj0 (T := TX12) (M := 70) (ty := tyX12) (ci := 12) (j := 62) (kd := 0) em135_145 rfl inX12 tyX12_ok nmX12 (by decide) wd_1343 (Or.inl ⟨rfl, rfl⟩) rfl ((congrFun xo_12 442).trans rfl), ag_puti0⟩) (xB_n (xB_l ⟨_, zs_aload_n em135_148, as_aload⟩) (xB_l ⟨_, zs_iload_n em135_149, as_iload⟩))) (xB_n (xB_l ⟨_, zs_puti zInj0 (T := TX12) (M := 70) (ty := tyX12) (ci := 12) (j := 63) (kd := 0) em135_150 rfl inX12 tyX12_ok nmX12 (by decide) wd_1344 (Or.inl ⟨rfl, rfl⟩) rfl ((congrFun xo_12 445).trans rfl), ag_puti0⟩) (xB_n (xB_l ⟨_, zs_iinc (k := 1) em135_153 (by decide +kernel), as_iinc (by decide +kernel)⟩) (xB_l ⟨_, zs_goto em135_156 (t := 53) (by decide), as_goto⟩))))))))
set_option maxRecDepth 100000 in
set_option maxHeartbeats 4000000 in
theorem zM_142 : zOKa 142 zc_142 := z_auto (cuts := [(11, ([(0, 0), (0, 1), ((-2147483648), 2147483647), (0, 7)], [], [some (.inr (.inl (0, 75))), some (.inl (2, 0)), some (.inl (3, 0)), none, none], [], [(22, 1, 0)], (0, 0)), [(0, 1), (0, 2)], 1159, [0, 0, 0, (-1)]), (53, ([(0, 0), (0, 1), ((-2147483648), 2147483647), (1, 128)], [], [some (.inr (.inl (0, 75))), some (.inl (2, 0)), some (.inl (3, 0)), none, none], [], [(22, 1, 0)], (0, 0)), [(0, 1), (0, 2)], 1160, [0, 0, 0, (-9)]), (84, ([(0, 0), (0, 1), ((-2147483648), 2147483647), (1, 127), ((-2147483648), 2147483647), (0, 7)], [], [some (.inr (.inl (0, 75))), some (.inl (2, 0)), some (.inl (3, 0)), some (.inl (4, 0)), some (.inl (5, 0))], [], [(22, 1, 0)], (0, 0)), [(0, 1), (0, 2), (0, 3), (0, 4)], 1159, [0, 0, 0, (-9), 0, (-1)])]) (rets := [(159, 3)]) (fuel := 1000) rfl rfl (by decide) (xrt_ok (xR_c (Or.inr (Or.inr (Or.inl ⟨rfl, em135_159, rfl⟩))) (xR_n))) (fun _ _ H _ hd => zTo_142 H hd) (by decide +kernel)
theorem em136_0 : decode prog_14_method_91_code 0 = .ok (.aload_n 0, 1) := by decide +kernel
theorem em136_1 : decode prog_14_method_91_code 1 = .ok (.invokevirtual 411, 3) := by decide +kernel
theorem em136_4 : decode prog_14_method_91_code 4 = .ok (.aload_n 0, 1) := by decide +kernel
theorem em136_5 : decode prog_14_method_91_code 5 = .ok (.iconst 1, 1) := by decide +kernel
theorem em136_6 : decode prog_14_method_91_code 6 = .ok (.putfield 331, 3) := by decide +kernel
theorem em136_9 : decode prog_14_method_91_code 9 = .ok (.iconst 0, 1) := by decide +kernel
theorem em136_10 : decode prog_14_method_91_code 10 = .ok (.istore_n 2, 1) := by decide +kernel
theorem em136_11 : decode prog_14_method_91_code 11 = .ok (.iload_n 2, 1) := by decide +kernel
theorem em136_12 : decode prog_14_method_91_code 12 = .ok (.aload_n 0, 1) := by decide +kernel
theorem em136_13 : decode prog_14_method_91_code 13 = .ok (.getfield 49, 3) := by decide +kernel
theorem em136_16 : decode prog_14_method_91_code 16 = .ok (.aload_n 0, 1) := by decide +kernel
theorem em136_17 : decode prog_14_method_91_code 17 = .ok (.getfield 230, 3) := by decide +kernel
theorem em136_20 : decode prog_14_method_91_code 20 = .ok (.iaload, 1) := by decide +kernel
theorem em136_21 : decode prog_14_method_91_code 21 = .ok (.if_icmp .ge 28, 3) := by decide +kernel
theorem em136_24 : decode prog_14_method_91_code 24 = .ok (.iload_n 1, 1) := by decide +kernel
theorem em136_25 : decode prog_14_method_91_code 25 = .ok (.iload_n 2, 1) := by decide +kernel
theorem em136_26 : decode prog_14_method_91_code 26 = .ok (.ishr, 1) := by decide +kernel
theorem em136_27 : decode prog_14_method_91_code 27 = .ok (.iconst 1, 1) := by decide +kernel
theorem em136_28 : decode prog_14_method_91_code 28 = .ok (.iand, 1) := by decide +kernel
theorem em136_29 : decode prog_14_method_91_code 29 = .ok (.iconst 1, 1) := by decide +kernel
theorem em136_30 : decode prog_14_method_91_code 30 = .ok (.if_icmp .ne 13, 3) := by decide +kernel
theorem em136_33 : decode prog_14_method_91_code 33 = .ok (.aload_n 0, 1) := by decide +kernel
theorem em136_34 : decode prog_14_method_91_code 34 = .ok (.iload_n 2, 1) := by decide +kernel
theorem em136_35 : decode prog_14_method_91_code 35 = .ok (.invokevirtual 421, 3) := by decide +kernel
theorem em136_38 : decode prog_14_method_91_code 38 = .ok (.ifCond .ne 5, 3) := by decide +kernel
theorem em136_41 : decode prog_14_method_91_code 41 = .ok (.iconst (-1), 1) := by decide +kernel
theorem em136_42 : decode prog_14_method_91_code 42 = .ok (.ireturn, 1) := by decide +kernel
theorem em136_43 : decode prog_14_method_91_code 43 = .ok (.iinc 2 1, 3) := by decide +kernel
theorem em136_46 : decode prog_14_method_91_code 46 = .ok (.goto (-35), 3) := by decide +kernel
theorem em136_49 : decode prog_14_method_91_code 49 = .ok (.aload_n 0, 1) := by decide +kernel
theorem em136_50 : decode prog_14_method_91_code 50 = .ok (.invokevirtual 402, 3) := by decide +kernel
theorem em136_53 : decode prog_14_method_91_code 53 = .ok (.iconst 0, 1) := by decide +kernel
theorem em136_54 : decode prog_14_method_91_code 54 = .ok (.istore_n 2, 1) := by decide +kernel
theorem em136_55 : decode prog_14_method_91_code 55 = .ok (.iload_n 2, 1) := by decide +kernel
theorem em136_56 : decode prog_14_method_91_code 56 = .ok (.aload_n 0, 1) := by decide +kernel
theorem em136_57 : decode prog_14_method_91_code 57 = .ok (.getfield 49, 3) := by decide +kernel
theorem em136_60 : decode prog_14_method_91_code 60 = .ok (.aload_n 0, 1) := by decide +kernel
theorem em136_61 : decode prog_14_method_91_code 61 = .ok (.getfield 230, 3) := by decide +kernel
theorem em136_64 : decode prog_14_method_91_code 64 = .ok (.iaload, 1) := by decide +kernel
theorem em136_65 : decode prog_14_method_91_code 65 = .ok (.if_icmp .ge 36, 3) := by decide +kernel
theorem em136_68 : decode prog_14_method_91_code 68 = .ok (.iload_n 1, 1) := by decide +kernel
theorem em136_69 : decode prog_14_method_91_code 69 = .ok (.iload_n 2, 1) := by decide +kernel
theorem em136_70 : decode prog_14_method_91_code 70 = .ok (.ishr, 1) := by decide +kernel
theorem em136_71 : decode prog_14_method_91_code 71 = .ok (.iconst 1, 1) := by decide +kernel
theorem em136_72 : decode prog_14_method_91_code 72 = .ok (.iand, 1) := by decide +kernel
theorem em136_73 : decode prog_14_method_91_code 73 = .ok (.ifCond .ne 6, 3) := by decide +kernel
theorem em136_76 : decode prog_14_method_91_code 76 = .ok (.goto 19, 3) := by decide +kernel
theorem em136_79 : decode prog_14_method_91_code 79 = .ok (.aload_n 0, 1) := by decide +kernel
theorem em136_80 : decode prog_14_method_91_code 80 = .ok (.iload_n 2, 1) := by decide +kernel
theorem em136_81 : decode prog_14_method_91_code 81 = .ok (.invokevirtual 380, 3) := by decide +kernel
theorem em136_84 : decode prog_14_method_91_code 84 = .ok (.aload_n 0, 1) := by decide +kernel
theorem em136_85 : decode prog_14_method_91_code 85 = .ok (.getfield 116, 3) := by decide +kernel
theorem em136_88 : decode prog_14_method_91_code 88 = .ok (.sipush 320, 3) := by decide +kernel
theorem em136_91 : decode prog_14_method_91_code 91 = .ok (.iload_n 2, 1) := by decide +kernel
theorem em136_92 : decode prog_14_method_91_code 92 = .ok (.iadd, 1) := by decide +kernel
theorem em136_93 : decode prog_14_method_91_code 93 = .ok (.iconst 3, 1) := by decide +kernel
theorem em136_94 : decode prog_14_method_91_code 94 = .ok (.iastore, 1) := by decide +kernel
theorem em136_95 : decode prog_14_method_91_code 95 = .ok (.iinc 2 1, 3) := by decide +kernel
theorem em136_98 : decode prog_14_method_91_code 98 = .ok (.goto (-43), 3) := by decide +kernel
theorem em136_101 : decode prog_14_method_91_code 101 = .ok (.aload_n 0, 1) := by decide +kernel
theorem em136_102 : decode prog_14_method_91_code 102 = .ok (.getfield 116, 3) := by decide +kernel
theorem em136_105 : decode prog_14_method_91_code 105 = .ok (.sipush 387, 3) := by decide +kernel
theorem em136_108 : decode prog_14_method_91_code 108 = .ok (.iaload, 1) := by decide +kernel
theorem em136_109 : decode prog_14_method_91_code 109 = .ok (.aload_n 0, 1) := by decide +kernel
theorem em136_110 : decode prog_14_method_91_code 110 = .ok (.getfield 113, 3) := by decide +kernel
theorem em136_113 : decode prog_14_method_91_code 113 = .ok (.sipush 387, 3) := by decide +kernel
theorem em136_116 : decode prog_14_method_91_code 116 = .ok (.iaload, 1) := by decide +kernel
theorem em136_117 : decode prog_14_method_91_code 117 = .ok (.isub, 1) := by decide +kernel
theorem em136_118 : decode prog_14_method_91_code 118 = .ok (.ireturn, 1) := by decide +kernel
/-! CapitalCaseModel.firstDay:(I)I -/
noncomputable def zTr_143 : Nat → Option aF := bn 56 (bn 26 (bn 12 (bn 6 (bn 4 (bn 1 (bl 0 (a_aload 0 1)) (bl 1 (a_invV zG0 zprot (true, false) zc_136 (zbd 136) (9, 0, 0) 12 1 4))) (bn 5 (bl 4 (a_aload 0 5)) (bl 5 (a_const 1 6)))) (bn 10 (bn 9 (bl 6 (a_puti zG0 zT0 zprot 12 7 1 9)) (bl 9 (a_const 0 10))) (bn 11 (bl 10 (a_istore 2 11)) (bl 11 (a_iload 2 12))))) (bn 20 (bn 16 (bn 13 (bl 12 (a_aload 0 13)) (bl 13 (a_getf zG0 zT0 12 4 16))) (bn 17 (bl 16 (a_aload 0 17)) (bl 17 (a_getf zG0 zT0 12 2 20)))) (bn 24 (bn 21 (bl 20 (a_ald zG0 zT0 (true, false) ts0 21)) (bl 21 (a_icmp 3 49 24))) (bn 25 (bl 24 (a_iload 1 25)) (bl 25 (a_iload 2 26)))))) (bn 38 (bn 30 (bn 28 (bn 27 (bl 26 (a_bin fany 27)) (bl 27 (a_const 1 28))) (bn 29 (bl 28 (a_bin fand 29)) (bl 29 (a_const 1 30)))) (bn 34 (bn 33 (bl 30 (a_icmp 1 43 33)) (bl 33 (a_aload 0 34))) (bn 35 (bl 34 (a_iload 2 35)) (bl 35 (a_invV zG0 zprot (true, false) zc_212 (zbd 212) (9, 0, 0) 12 2 38))))) (bn 49 (bn 43 (bn 41 (bl 38 (a_if 1 43 41)) (bl 41 (a_const (-1) 42))) (bn 46 (bl 43 (a_iinc 2 1 46)) (bl 46 (a_goto 11)))) (bn 53 (bn 50 (bl 49 (a_aload 0 50)) (bl 50 (a_invV zG0 zprot (true, false) zc_138 (zbd 138) (9, 0, 0) 12 1 53))) (bn 54 (bl 53 (a_const 0 54)) (bn 55 (bl 54 (a_istore 2 55)) (bl 55 (a_iload 2 56)))))))) (bn 85 (bn 70 (bn 64 (bn 60 (bn 57 (bl 56 (a_aload 0 57)) (bl 57 (a_getf zG0 zT0 12 4 60))) (bn 61 (bl 60 (a_aload 0 61)) (bl 61 (a_getf zG0 zT0 12 2 64)))) (bn 68 (bn 65 (bl 64 (a_ald zG0 zT0 (true, false) ts0 65)) (bl 65 (a_icmp 3 101 68))) (bn 69 (bl 68 (a_iload 1 69)) (bl 69 (a_iload 2 70))))) (bn 76 (bn 72 (bn 71 (bl 70 (a_bin fany 71)) (bl 71 (a_const 1 72))) (bn 73 (bl 72 (a_bin fand 73)) (bl 73 (a_if 1 79 76)))) (bn 80 (bn 79 (bl 76 (a_goto 95)) (bl 79 (a_aload 0 80))) (bn 81 (bl 80 (a_iload 2 81)) (bn 84 (bl 81 (a_invV zG0 zprot (true, false) zc_135 (zbd 135) (9, 0, 0) 12 2 84)) (bl 84 (a_aload 0 85))))))) (bn 101 (bn 93 (bn 91 (bn 88 (bl 85 (a_getf zG0 zT0 12 0 88)) (bl 88 (a_const 320 91))) (bn 92 (bl 91 (a_iload 2 92)) (bl 92 (a_bin fadd 93)))) (bn 95 (bn 94 (bl 93 (a_const 3 94)) (bl 94 (a_ast zG0 zT0 ts0 95))) (bn 98 (bl 95 (a_iinc 2 1 98)) (bl 98 (a_goto 55))))) (bn 109 (bn 105 (bn 102 (bl 101 (a_aload 0 102)) (bl 102 (a_getf zG0 zT0 12 0 105))) (bn 108 (bl 105 (a_const 387 108)) (bl 108 (a_ald zG0 zT0 (true, false) ts0 109)))) (bn 113 (bn 110 (bl 109 (a_aload 0 110)) (bl 110 (a_getf zG0 zT0 12 1 113))) (bn 116 (bl 113 (a_const 387 116)) (bn 117 (bl 116 (a_ald zG0 zT0 (true, false) ts0 117)) (bl 117 (a_bin fsub 118))))))))
set_option maxRecDepth 100000 in
set_option maxHeartbeats 4000000 in
theorem zTo_143 {pre : zPre} {post : zPost} (H : zTieC pre post) {d : Nat × Nat × Nat} (hd : zLe (9, 0, 0) d) : aTr zG0 zT0 zInv (true, false) PZ zbd pre post d prog_14_method_91_code "CapitalCaseModel" zTr_143 := (xB_n (xB_n (xB_n (xB_n (xB_n (xB_n (xB_l ⟨_, zs_aload_n em136_0, as_aload⟩) (xB_l ⟨_, zs_invV (T := TX12) em136_1 zl_136 rfl wd_1635 wd_1637 wd_73 ((congrFun xo_12 411).trans rfl) xm_129, ag_invV H zh_136 hd (by decide)⟩)) (xB_n (xB_l ⟨_, zs_aload_n em136_4, as_aload⟩) (xB_l ⟨_, zs_iconst (v := 1) em136_5 (by decide +kernel), as_const (by decide +kernel)⟩))) (xB_n (xB_n (xB_l ⟨_, zs_puti zInj0 (T := TX12) (M := 70) (ty := tyX12) (ci := 12) (j := 7) (kd := 1) em136_6 rfl inX12 tyX12_ok nmX12 (by decide) wd_1334 (Or.inr ⟨rfl, rfl⟩) rfl ((congrFun xo_12 331).trans rfl), ag_puti1⟩) (xB_l ⟨_, zs_iconst (v := 0) em136_9 (by decide +kernel), as_const (by decide +kernel)⟩)) (xB_n (xB_l ⟨_, zs_istore_n em136_10, as_istore⟩) (xB_l ⟨_, zs_iload_n em136_11, as_iload⟩)))) (xB_n (xB_n (xB_n (xB_l ⟨_, zs_aload_n em136_12, as_aload⟩) (xB_l ⟨_, zs_getf (T := TX12) (M := 70) (ci := 12) (j := 4) em136_13 rfl inX12 (by decide) wd_1305 ((congrFun xo_12 49).trans rfl), as_getf zTie⟩)) (xB_n (xB_l ⟨_, zs_aload_n em136_16, as_aload⟩) (xB_l ⟨_, zs_getf (T := TX12) (M := 70) (ci := 12) (j := 2) em136_17 rfl inX12 (by decide) wd_1299 ((congrFun xo_12 230).trans rfl), as_getf zTie⟩))) (xB_n (xB_n (xB_l ⟨_, zs_iald em136_20, ag_iald⟩) (xB_l ⟨_, zs_icmpge em136_21 (t := 49) (by decide), as_icmp⟩)) (xB_n (xB_l ⟨_, zs_iload_n em136_24, as_iload⟩) (xB_l ⟨_, zs_iload_n em136_25, as_iload⟩))))) (xB_n (xB_n (xB_n (xB_n (xB_l ⟨_, zs_ishr em136_26, as_bin fany_ok⟩) (xB_l ⟨_, zs_iconst (v := 1) em136_27 (by decide +kernel), as_const (by decide +kernel)⟩)) (xB_n (xB_l ⟨_, zs_iand em136_28, as_bin fand_ok⟩) (xB_l ⟨_, zs_iconst (v := 1) em136_29 (by decide +kernel), as_const (by decide +kernel)⟩))) (xB_n (xB_n (xB_l ⟨_, zs_icmpne em136_30 (t := 43) (by decide), as_icmp⟩) (xB_l ⟨_, zs_aload_n em136_33, as_aload⟩)) (xB_n (xB_l ⟨_, zs_iload_n em136_34, as_iload⟩) (xB_l ⟨_, zs_invV (T := TX12) em136_35 zl_212 rfl wd_1715 wd_1717 wd_88 ((congrFun xo_12 421).trans rfl) xm_185, ag_invV H zh_212 hd (by decide)⟩)))) (xB_n (xB_n (xB_n (xB_l ⟨_, zs_ifne em136_38 (t := 43) (by decide), as_if⟩) (xB_l ⟨_, zs_iconst (v := (-1)) em136_41 (by decide +kernel), as_const (by decide +kernel)⟩)) (xB_n (xB_l ⟨_, zs_iinc (k := 1) em136_43 (by decide +kernel), as_iinc (by decide +kernel)⟩) (xB_l ⟨_, zs_goto em136_46 (t := 11) (by decide), as_goto⟩))) (xB_n (xB_n (xB_l ⟨_, zs_aload_n em136_49, as_aload⟩) (xB_l ⟨_, zs_invV (T := TX12) em136_50 zl_138 rfl wd_1758 wd_1760 wd_94 ((congrFun xo_12 402).trans rfl) xm_131, ag_invV H zh_138 hd (by decide)⟩)) (xB_n (xB_l ⟨_, zs_iconst (v := 0) em136_53 (by decide +kernel), as_const (by decide +kernel)⟩) (xB_n (xB_l ⟨_, zs_istore_n em136_54, as_istore⟩) (xB_l ⟨_, zs_iload_n em136_55, as_iload⟩))))))) (xB_n (xB_n (xB_n (xB_n (xB_n (xB_l ⟨_, zs_aload_n em136_56, as_aload⟩) (xB_l ⟨_, zs_getf (T := TX12) (M := 70) (ci := 12) (j := 4) em136_57 rfl inX12 (by decide) wd_1305 ((congrFun xo_12 49).trans rfl), as_getf zTie⟩)) (xB_n (xB_l ⟨_, zs_aload_n em136_60, as_aload⟩) (xB_l ⟨_, zs_getf (T := TX12) (M := 70) (ci := 12) (j := 2) em136_61 rfl inX12 (by decide) wd_1299 ((congrFun xo_12 230).trans rfl), as_getf zTie⟩))) (xB_n (xB_n (xB_l ⟨_, zs_iald em136_64, ag_iald⟩) (xB_l ⟨_, zs_icmpge em136_65 (t := 101) (by decide), as_icmp⟩)) (xB_n (xB_l ⟨_, zs_iload_n em136_68, as_iload⟩) (xB_l ⟨_, zs_iload_n em136_69, as_iload⟩)))) (xB_n (xB_n (xB_n (xB_l ⟨_, zs_ishr em136_70, as_bin fany_ok⟩) (xB_l ⟨_, zs_iconst (v := 1) em136_71 (by decide +kernel), as_const (by decide +kernel)⟩)) (xB_n (xB_l ⟨_, zs_iand em136_72, as_bin fand_ok⟩) (xB_l ⟨_, zs_ifne em136_73 (t := 79) (by decide), as_if⟩))) (xB_n (xB_n (xB_l ⟨_, zs_goto em136_76 (t := 95) (by decide), as_goto⟩) (xB_l ⟨_, zs_aload_n em136_79, as_aload⟩)) (xB_n (xB_l ⟨_, zs_iload_n em136_80, as_iload⟩) (xB_n (xB_l ⟨_, zs_invV (T := TX12) em136_81 zl_135 rfl wd_1723 wd_1725 wd_90 ((congrFun xo_12 380).trans rfl) xm_128, ag_invV H zh_135 hd (by decide)⟩) (xB_l ⟨_, zs_aload_n em136_84, as_aload⟩)))))) (xB_n (xB_n (xB_n (xB_n (xB_l ⟨_, zs_getf (T := TX12) (M := 70) (ci := 12) (j := 0) em136_85 rfl inX12 (by decide) wd_1332 ((congrFun xo_12 116).trans rfl), as_getf zTie⟩) (xB_l ⟨_, zs_sipush (v := 320) em136_88 (by decide +kernel), as_const (by decide +kernel)⟩)) (xB_n (xB_l ⟨_, zs_iload_n em136_91, as_iload⟩) (xB_l ⟨_, zs_iadd em136_92, as_bin fadd_ok⟩))) (xB_n (xB_n (xB_l ⟨_, zs_iconst (v := 3) em136_93 (by decide +kernel), as_const (by decide +kernel)⟩) (xB_l ⟨_, zs_iast zInj0 em136_94, as_iast zTie⟩)) (xB_n (xB_l ⟨_, zs_iinc (k := 1) em136_95 (by decide +kernel), as_iinc (by decide +kernel)⟩) (xB_l ⟨_, zs_goto em136_98 (t := 55) (by decide), as_goto⟩)))) (xB_n (xB_n (xB_n (xB_l ⟨_, zs_aload_n em136_101, as_aload⟩) (xB_l ⟨_, zs_getf (T := TX12) (M := 70) (ci := 12) (j := 0) em136_102 rfl inX12 (by decide) wd_1332 ((congrFun xo_12 116).trans rfl), as_getf zTie⟩)) (xB_n (xB_l ⟨_, zs_sipush (v := 387) em136_105 (by decide +kernel), as_const (by decide +kernel)⟩) (xB_l ⟨_, zs_iald em136_108, ag_iald⟩))) (xB_n (xB_n (xB_l ⟨_, zs_aload_n em136_109, as_aload⟩) (xB_l ⟨_, zs_getf (T := TX12) (M := 70) (ci := 12) (j := 1) em136_110 rfl inX12 (by decide) wd_1331 ((congrFun xo_12 113).trans rfl), as_getf zTie⟩)) (xB_n (xB_l ⟨_, zs_sipush (v := 387) em136_113 (by decide +kernel), as_const (by decide +kernel)⟩) (xB_n (xB_l ⟨_, zs_iald em136_116, ag_iald⟩) (xB_l ⟨_, zs_isub em136_117, as_bin fsub_ok⟩))))))))
set_option maxRecDepth 100000 in
set_option maxHeartbeats 4000000 in
theorem zM_143 : zOKa 143 zc_143 := z_auto (cuts := [(11, ([(0, 0), (0, 127), (0, 1), (0, 7)], [], [some (.inr (.inl (0, 75))), some (.inl (1, 0)), some (.inl (3, 0))], [], [(22, 2, 0)], (0, 0)), [(0, 2)], 15, [0, 0, 0, (-1)]), (55, ([(0, 0), (0, 127), (0, 1), (0, 7)], [], [some (.inr (.inl (0, 75))), some (.inl (1, 0)), some (.inl (3, 0))], [], [(22, 2, 0)], (0, 0)), [(0, 2)], 7, [0, 0, 0, (-1)])]) (rets := [(42, 1), (118, 1)]) (fuel := 1000) rfl rfl (by decide) (xrt_ok (xR_c (Or.inl ⟨rfl, em136_42, rfl⟩) (xR_c (Or.inl ⟨rfl, em136_118, rfl⟩) (xR_n)))) (fun _ _ H _ hd => zTo_143 H hd) (by decide +kernel)
theorem em137_0 : decode prog_14_method_107_code 0 = .ok (.aload_n 0, 1) := by decide +kernel
theorem em137_1 : decode prog_14_method_107_code 1 = .ok (.getfield 251, 3) := by decide +kernel
theorem em137_4 : decode prog_14_method_107_code 4 = .ok (.istore_n 1, 1) := by decide +kernel
theorem em137_5 : decode prog_14_method_107_code 5 = .ok (.aload_n 0, 1) := by decide +kernel
theorem em137_6 : decode prog_14_method_107_code 6 = .ok (.iconst 0, 1) := by decide +kernel
theorem em137_7 : decode prog_14_method_107_code 7 = .ok (.putfield 251, 3) := by decide +kernel
theorem em137_10 : decode prog_14_method_107_code 10 = .ok (.iload_n 1, 1) := by decide +kernel
theorem em137_11 : decode prog_14_method_107_code 11 = .ok (.ireturn, 1) := by decide +kernel
/-! CapitalCaseModel.forget:()I -/
noncomputable def zTr_144 : Nat → Option aF := bn 5 (bn 1 (bl 0 (a_aload 0 1)) (bn 4 (bl 1 (a_getf zG0 zT0 12 64 4)) (bl 4 (a_istore 1 5)))) (bn 7 (bn 6 (bl 5 (a_aload 0 6)) (bl 6 (a_const 0 7))) (bn 10 (bl 7 (a_puti zG0 zT0 zprot 12 64 0 10)) (bl 10 (a_iload 1 11))))
set_option maxRecDepth 100000 in
set_option maxHeartbeats 4000000 in
theorem zTo_144 {pre : zPre} {post : zPost} (H : zTieC pre post) {d : Nat × Nat × Nat} (hd : zLe (0, 0, 0) d) : aTr zG0 zT0 zInv (false, false) PZ zbd pre post d prog_14_method_107_code "CapitalCaseModel" zTr_144 := (xB_n (xB_n (xB_l ⟨_, zs_aload_n em137_0, as_aload⟩) (xB_n (xB_l ⟨_, zs_getf (T := TX12) (M := 70) (ci := 12) (j := 64) em137_1 rfl inX12 (by decide) wd_1345 ((congrFun xo_12 251).trans rfl), as_getf zTie⟩) (xB_l ⟨_, zs_istore_n em137_4, as_istore⟩))) (xB_n (xB_n (xB_l ⟨_, zs_aload_n em137_5, as_aload⟩) (xB_l ⟨_, zs_iconst (v := 0) em137_6 (by decide +kernel), as_const (by decide +kernel)⟩)) (xB_n (xB_l ⟨_, zs_puti zInj0 (T := TX12) (M := 70) (ty := tyX12) (ci := 12) (j := 64) (kd := 0) em137_7 rfl inX12 tyX12_ok nmX12 (by decide) wd_1345 (Or.inl ⟨rfl, rfl⟩) rfl ((congrFun xo_12 251).trans rfl), ag_puti0⟩) (xB_l ⟨_, zs_iload_n em137_10, as_iload⟩))))
set_option maxRecDepth 100000 in
set_option maxHeartbeats 4000000 in
theorem zM_144 : zOKa 144 zc_144 := z_auto (cuts := []) (rets := [(11, 1)]) (fuel := 1000) rfl rfl (by decide) (xrt_ok (xR_c (Or.inl ⟨rfl, em137_11, rfl⟩) (xR_n))) (fun _ _ H _ hd => zTo_144 H hd) (by decide +kernel)
theorem em138_0 : decode prog_14_method_54_code 0 = .ok (.aload_n 0, 1) := by decide +kernel
theorem em138_1 : decode prog_14_method_54_code 1 = .ok (.getfield 116, 3) := by decide +kernel
theorem em138_4 : decode prog_14_method_54_code 4 = .ok (.bipush 8, 2) := by decide +kernel
theorem em138_6 : decode prog_14_method_54_code 6 = .ok (.iload_n 1, 1) := by decide +kernel
theorem em138_7 : decode prog_14_method_54_code 7 = .ok (.imul, 1) := by decide +kernel
theorem em138_8 : decode prog_14_method_54_code 8 = .ok (.iload_n 2, 1) := by decide +kernel
theorem em138_9 : decode prog_14_method_54_code 9 = .ok (.iadd, 1) := by decide +kernel
theorem em138_10 : decode prog_14_method_54_code 10 = .ok (.iaload, 1) := by decide +kernel
theorem em138_11 : decode prog_14_method_54_code 11 = .ok (.aload_n 0, 1) := by decide +kernel
theorem em138_12 : decode prog_14_method_54_code 12 = .ok (.getfield 116, 3) := by decide +kernel
theorem em138_15 : decode prog_14_method_54_code 15 = .ok (.bipush 40, 2) := by decide +kernel
theorem em138_17 : decode prog_14_method_54_code 17 = .ok (.bipush 8, 2) := by decide +kernel
theorem em138_19 : decode prog_14_method_54_code 19 = .ok (.iload_n 1, 1) := by decide +kernel
theorem em138_20 : decode prog_14_method_54_code 20 = .ok (.imul, 1) := by decide +kernel
theorem em138_21 : decode prog_14_method_54_code 21 = .ok (.iadd, 1) := by decide +kernel
theorem em138_22 : decode prog_14_method_54_code 22 = .ok (.iload_n 2, 1) := by decide +kernel
theorem em138_23 : decode prog_14_method_54_code 23 = .ok (.iadd, 1) := by decide +kernel
theorem em138_24 : decode prog_14_method_54_code 24 = .ok (.iaload, 1) := by decide +kernel
theorem em138_25 : decode prog_14_method_54_code 25 = .ok (.isub, 1) := by decide +kernel
theorem em138_26 : decode prog_14_method_54_code 26 = .ok (.istore_n 3, 1) := by decide +kernel
theorem em138_27 : decode prog_14_method_54_code 27 = .ok (.iload_n 3, 1) := by decide +kernel
theorem em138_28 : decode prog_14_method_54_code 28 = .ok (.ifCond .lt 11, 3) := by decide +kernel
theorem em138_31 : decode prog_14_method_54_code 31 = .ok (.iload_n 1, 1) := by decide +kernel
theorem em138_32 : decode prog_14_method_54_code 32 = .ok (.aload_n 0, 1) := by decide +kernel
theorem em138_33 : decode prog_14_method_54_code 33 = .ok (.getfield 334, 3) := by decide +kernel
theorem em138_36 : decode prog_14_method_54_code 36 = .ok (.if_icmp .ne 7, 3) := by decide +kernel
theorem em138_39 : decode prog_14_method_54_code 39 = .ok (.iconst 0, 1) := by decide +kernel
theorem em138_40 : decode prog_14_method_54_code 40 = .ok (.goto 4, 3) := by decide +kernel
theorem em138_43 : decode prog_14_method_54_code 43 = .ok (.iload_n 3, 1) := by decide +kernel
theorem em138_44 : decode prog_14_method_54_code 44 = .ok (.ireturn, 1) := by decide +kernel
/-! CapitalCaseModel.freeOf:(II)I -/
noncomputable def zTr_145 : Nat → Option aF := bn 21 (bn 10 (bn 6 (bn 1 (bl 0 (a_aload 0 1)) (bn 4 (bl 1 (a_getf zG0 zT0 12 0 4)) (bl 4 (a_const 8 6)))) (bn 8 (bn 7 (bl 6 (a_iload 1 7)) (bl 7 (a_bin fmul 8))) (bn 9 (bl 8 (a_iload 2 9)) (bl 9 (a_bin fadd 10))))) (bn 15 (bn 11 (bl 10 (a_ald zG0 zT0 (false, false) ts0 11)) (bn 12 (bl 11 (a_aload 0 12)) (bl 12 (a_getf zG0 zT0 12 0 15)))) (bn 19 (bn 17 (bl 15 (a_const 40 17)) (bl 17 (a_const 8 19))) (bn 20 (bl 19 (a_iload 1 20)) (bl 20 (a_bin fmul 21)))))) (bn 28 (bn 24 (bn 22 (bl 21 (a_bin fadd 22)) (bn 23 (bl 22 (a_iload 2 23)) (bl 23 (a_bin fadd 24)))) (bn 26 (bn 25 (bl 24 (a_ald zG0 zT0 (false, false) ts0 25)) (bl 25 (a_bin fsub 26))) (bn 27 (bl 26 (a_istore 3 27)) (bl 27 (a_iload 3 28))))) (bn 36 (bn 32 (bn 31 (bl 28 (a_if 2 39 31)) (bl 31 (a_iload 1 32))) (bn 33 (bl 32 (a_aload 0 33)) (bl 33 (a_getf zG0 zT0 12 8 36)))) (bn 40 (bn 39 (bl 36 (a_icmp 1 43 39)) (bl 39 (a_const 0 40))) (bn 43 (bl 40 (a_goto 44)) (bl 43 (a_iload 3 44))))))
set_option maxRecDepth 100000 in
set_option maxHeartbeats 4000000 in
theorem zTo_145 {pre : zPre} {post : zPost} (H : zTieC pre post) {d : Nat × Nat × Nat} (hd : zLe (0, 0, 0) d) : aTr zG0 zT0 zInv (false, false) PZ zbd pre post d prog_14_method_54_code "CapitalCaseModel" zTr_145 := (xB_n (xB_n (xB_n (xB_n (xB_l ⟨_, zs_aload_n em138_0, as_aload⟩) (xB_n (xB_l ⟨_, zs_getf (T := TX12) (M := 70) (ci := 12) (j := 0) em138_1 rfl inX12 (by decide) wd_1332 ((congrFun xo_12 116).trans rfl), as_getf zTie⟩) (xB_l ⟨_, zs_bipush (v := 8) em138_4 (by decide +kernel), as_const (by decide +kernel)⟩))) (xB_n (xB_n (xB_l ⟨_, zs_iload_n em138_6, as_iload⟩) (xB_l ⟨_, zs_imul em138_7, as_bin fmul_ok⟩)) (xB_n (xB_l ⟨_, zs_iload_n em138_8, as_iload⟩) (xB_l ⟨_, zs_iadd em138_9, as_bin fadd_ok⟩)))) (xB_n (xB_n (xB_l ⟨_, zs_iald em138_10, ag_iald⟩) (xB_n (xB_l ⟨_, zs_aload_n em138_11, as_aload⟩) (xB_l ⟨_, zs_getf (T := TX12) (M := 70) (ci := 12) (j := 0) em138_12 rfl inX12 (by decide) wd_1332 ((congrFun xo_12 116).trans rfl), as_getf zTie⟩))) (xB_n (xB_n (xB_l ⟨_, zs_bipush (v := 40) em138_15 (by decide +kernel), as_const (by decide +kernel)⟩) (xB_l ⟨_, zs_bipush (v := 8) em138_17 (by decide +kernel), as_const (by decide +kernel)⟩)) (xB_n (xB_l ⟨_, zs_iload_n em138_19, as_iload⟩) (xB_l ⟨_, zs_imul em138_20, as_bin fmul_ok⟩))))) (xB_n (xB_n (xB_n (xB_l ⟨_, zs_iadd em138_21, as_bin fadd_ok⟩) (xB_n (xB_l ⟨_, zs_iload_n em138_22, as_iload⟩) (xB_l ⟨_, zs_iadd em138_23, as_bin fadd_ok⟩))) (xB_n (xB_n (xB_l ⟨_, zs_iald em138_24, ag_iald⟩) (xB_l ⟨_, zs_isub em138_25, as_bin fsub_ok⟩)) (xB_n (xB_l ⟨_, zs_istore_n em138_26, as_istore⟩) (xB_l ⟨_, zs_iload_n em138_27, as_iload⟩)))) (xB_n (xB_n (xB_n (xB_l ⟨_, zs_iflt em138_28 (t := 39) (by decide), as_if⟩) (xB_l ⟨_, zs_iload_n em138_31, as_iload⟩)) (xB_n (xB_l ⟨_, zs_aload_n em138_32, as_aload⟩) (xB_l ⟨_, zs_getf (T := TX12) (M := 70) (ci := 12) (j := 8) em138_33 rfl inX12 (by decide) wd_1335 ((congrFun xo_12 334).trans rfl), as_getf zTie⟩))) (xB_n (xB_n (xB_l ⟨_, zs_icmpne em138_36 (t := 43) (by decide), as_icmp⟩) (xB_l ⟨_, zs_iconst (v := 0) em138_39 (by decide +kernel), as_const (by decide +kernel)⟩)) (xB_n (xB_l ⟨_, zs_goto em138_40 (t := 44) (by decide), as_goto⟩) (xB_l ⟨_, zs_iload_n em138_43, as_iload⟩))))))
set_option maxRecDepth 100000 in
set_option maxHeartbeats 4000000 in
theorem zM_145 : zOKa 145 zc_145 := z_auto (cuts := []) (rets := [(44, 1)]) (fuel := 1000) rfl rfl (by decide) (xrt_ok (xR_c (Or.inl ⟨rfl, em138_44, rfl⟩) (xR_n))) (fun _ _ H _ hd => zTo_145 H hd) (by decide +kernel)
theorem em139_0 : decode prog_14_method_84_code 0 = .ok (.aload_n 0, 1) := by decide +kernel
theorem em139_1 : decode prog_14_method_84_code 1 = .ok (.iload_n 1, 1) := by decide +kernel
theorem em139_2 : decode prog_14_method_84_code 2 = .ok (.invokevirtual 417, 3) := by decide +kernel
theorem em139_5 : decode prog_14_method_84_code 5 = .ok (.ifCond .eq 27, 3) := by decide +kernel
theorem em139_8 : decode prog_14_method_84_code 8 = .ok (.iload_n 2, 1) := by decide +kernel
theorem em139_9 : decode prog_14_method_84_code 9 = .ok (.iconst 0, 1) := by decide +kernel
theorem em139_10 : decode prog_14_method_84_code 10 = .ok (.aload_n 0, 1) := by decide +kernel
theorem em139_11 : decode prog_14_method_84_code 11 = .ok (.getfield 52, 3) := by decide +kernel
theorem em139_14 : decode prog_14_method_84_code 14 = .ok (.bipush 7, 2) := by decide +kernel
theorem em139_16 : decode prog_14_method_84_code 16 = .ok (.aload_n 0, 1) := by decide +kernel
theorem em139_17 : decode prog_14_method_84_code 17 = .ok (.getfield 230, 3) := by decide +kernel
theorem em139_20 : decode prog_14_method_84_code 20 = .ok (.imul, 1) := by decide +kernel
theorem em139_21 : decode prog_14_method_84_code 21 = .ok (.iload_n 1, 1) := by decide +kernel
theorem em139_22 : decode prog_14_method_84_code 22 = .ok (.iadd, 1) := by decide +kernel
theorem em139_23 : decode prog_14_method_84_code 23 = .ok (.iaload, 1) := by decide +kernel
theorem em139_24 : decode prog_14_method_84_code 24 = .ok (.iconst 1, 1) := by decide +kernel
theorem em139_25 : decode prog_14_method_84_code 25 = .ok (.isub, 1) := by decide +kernel
theorem em139_26 : decode prog_14_method_84_code 26 = .ok (.invokestatic 324, 3) := by decide +kernel
theorem em139_29 : decode prog_14_method_84_code 29 = .ok (.ifCond .ne 5, 3) := by decide +kernel
theorem em139_32 : decode prog_14_method_84_code 32 = .ok (.iconst (-1), 1) := by decide +kernel
theorem em139_33 : decode prog_14_method_84_code 33 = .ok (.ireturn, 1) := by decide +kernel
theorem em139_34 : decode prog_14_method_84_code 34 = .ok (.aload_n 0, 1) := by decide +kernel
theorem em139_35 : decode prog_14_method_84_code 35 = .ok (.invokevirtual 411, 3) := by decide +kernel
theorem em139_38 : decode prog_14_method_84_code 38 = .ok (.aload_n 0, 1) := by decide +kernel
theorem em139_39 : decode prog_14_method_84_code 39 = .ok (.getfield 116, 3) := by decide +kernel
theorem em139_42 : decode prog_14_method_84_code 42 = .ok (.sipush 320, 3) := by decide +kernel
theorem em139_45 : decode prog_14_method_84_code 45 = .ok (.iload_n 1, 1) := by decide +kernel
theorem em139_46 : decode prog_14_method_84_code 46 = .ok (.iadd, 1) := by decide +kernel
theorem em139_47 : decode prog_14_method_84_code 47 = .ok (.iaload, 1) := by decide +kernel
theorem em139_48 : decode prog_14_method_84_code 48 = .ok (.iconst 3, 1) := by decide +kernel
theorem em139_49 : decode prog_14_method_84_code 49 = .ok (.if_icmp .ne 6, 3) := by decide +kernel
theorem em139_52 : decode prog_14_method_84_code 52 = .ok (.bipush (-3), 2) := by decide +kernel
theorem em139_54 : decode prog_14_method_84_code 54 = .ok (.ireturn, 1) := by decide +kernel
theorem em139_55 : decode prog_14_method_84_code 55 = .ok (.aload_n 0, 1) := by decide +kernel
theorem em139_56 : decode prog_14_method_84_code 56 = .ok (.iload_n 1, 1) := by decide +kernel
theorem em139_57 : decode prog_14_method_84_code 57 = .ok (.invokevirtual 383, 3) := by decide +kernel
theorem em139_60 : decode prog_14_method_84_code 60 = .ok (.ifCond .eq 14, 3) := by decide +kernel
theorem em139_63 : decode prog_14_method_84_code 63 = .ok (.aload_n 0, 1) := by decide +kernel
theorem em139_64 : decode prog_14_method_84_code 64 = .ok (.iload_n 1, 1) := by decide +kernel
theorem em139_65 : decode prog_14_method_84_code 65 = .ok (.invokevirtual 421, 3) := by decide +kernel
theorem em139_68 : decode prog_14_method_84_code 68 = .ok (.ifCond .ne 6, 3) := by decide +kernel
theorem em139_71 : decode prog_14_method_84_code 71 = .ok (.bipush (-2), 2) := by decide +kernel
theorem em139_73 : decode prog_14_method_84_code 73 = .ok (.ireturn, 1) := by decide +kernel
theorem em139_74 : decode prog_14_method_84_code 74 = .ok (.aload_n 0, 1) := by decide +kernel
theorem em139_75 : decode prog_14_method_84_code 75 = .ok (.getfield 116, 3) := by decide +kernel
theorem em139_78 : decode prog_14_method_84_code 78 = .ok (.sipush 330, 3) := by decide +kernel
theorem em139_81 : decode prog_14_method_84_code 81 = .ok (.bipush 8, 2) := by decide +kernel
theorem em139_83 : decode prog_14_method_84_code 83 = .ok (.iload_n 1, 1) := by decide +kernel
theorem em139_84 : decode prog_14_method_84_code 84 = .ok (.imul, 1) := by decide +kernel
theorem em139_85 : decode prog_14_method_84_code 85 = .ok (.iadd, 1) := by decide +kernel
theorem em139_86 : decode prog_14_method_84_code 86 = .ok (.iload_n 2, 1) := by decide +kernel
theorem em139_87 : decode prog_14_method_84_code 87 = .ok (.iadd, 1) := by decide +kernel
theorem em139_88 : decode prog_14_method_84_code 88 = .ok (.iaload, 1) := by decide +kernel
theorem em139_89 : decode prog_14_method_84_code 89 = .ok (.ireturn, 1) := by decide +kernel
/-! CapitalCaseModel.from:(II)I -/
noncomputable def zTr_146 : Nat → Option aF := bn 45 (bn 21 (bn 10 (bn 5 (bn 1 (bl 0 (a_aload 0 1)) (bn 2 (bl 1 (a_iload 1 2)) (bl 2 (a_invV zG0 zprot (true, false) zc_181 (zbd 181) (9, 0, 0) 12 2 5)))) (bn 8 (bl 5 (a_if 0 32 8)) (bn 9 (bl 8 (a_iload 2 9)) (bl 9 (a_const 0 10))))) (bn 16 (bn 11 (bl 10 (a_aload 0 11)) (bn 14 (bl 11 (a_getf zG0 zT0 12 36 14)) (bl 14 (a_const 7 16)))) (bn 17 (bl 16 (a_aload 0 17)) (bn 20 (bl 17 (a_getf zG0 zT0 12 2 20)) (bl 20 (a_bin fmul 21)))))) (bn 29 (bn 24 (bn 22 (bl 21 (a_iload 1 22)) (bn 23 (bl 22 (a_bin fadd 23)) (bl 23 (a_ald zG0 zT0 (true, false) ts0 24)))) (bn 25 (bl 24 (a_const 1 25)) (bn 26 (bl 25 (a_bin fsub 26)) (bl 26 (a_inv zG0 zprot (true, false) zc_159 (zbd 159) (9, 0, 0) 3 29))))) (bn 35 (bn 32 (bl 29 (a_if 1 34 32)) (bn 34 (bl 32 (a_const (-1) 33)) (bl 34 (a_aload 0 35)))) (bn 39 (bn 38 (bl 35 (a_invV zG0 zprot (true, false) zc_136 (zbd 136) (9, 0, 0) 12 1 38)) (bl 38 (a_aload 0 39))) (bn 42 (bl 39 (a_getf zG0 zT0 12 0 42)) (bl 42 (a_const 320 45))))))) (bn 65 (bn 55 (bn 48 (bn 46 (bl 45 (a_iload 1 46)) (bn 47 (bl 46 (a_bin fadd 47)) (bl 47 (a_ald zG0 zT0 (true, false) ts0 48)))) (bn 49 (bl 48 (a_const 3 49)) (bn 52 (bl 49 (a_icmp 1 55 52)) (bl 52 (a_const (-3) 54))))) (bn 60 (bn 56 (bl 55 (a_aload 0 56)) (bn 57 (bl 56 (a_iload 1 57)) (bl 57 (a_invV zG0 zprot (true, false) zc_179 (zbd 179) (9, 0, 0) 12 2 60)))) (bn 63 (bl 60 (a_if 0 74 63)) (bn 64 (bl 63 (a_aload 0 64)) (bl 64 (a_iload 1 65)))))) (bn 81 (bn 74 (bn 68 (bl 65 (a_invV zG0 zprot (true, false) zc_212 (zbd 212) (9, 0, 0) 12 2 68)) (bn 71 (bl 68 (a_if 1 74 71)) (bl 71 (a_const (-2) 73)))) (bn 75 (bl 74 (a_aload 0 75)) (bn 78 (bl 75 (a_getf zG0 zT0 12 0 78)) (bl 78 (a_const 330 81))))) (bn 85 (bn 83 (bl 81 (a_const 8 83)) (bn 84 (bl 83 (a_iload 1 84)) (bl 84 (a_bin fmul 85)))) (bn 87 (bn 86 (bl 85 (a_bin fadd 86)) (bl 86 (a_iload 2 87))) (bn 88 (bl 87 (a_bin fadd 88)) (bl 88 (a_ald zG0 zT0 (true, false) ts0 89)))))))
set_option maxRecDepth 100000 in
set_option maxHeartbeats 4000000 in
theorem zTo_146 {pre : zPre} {post : zPost} (H : zTieC pre post) {d : Nat × Nat × Nat} (hd : zLe (9, 0, 0) d) : aTr zG0 zT0 zInv (true, false) PZ zbd pre post d prog_14_method_84_code "CapitalCaseModel" zTr_146 := (xB_n (xB_n (xB_n (xB_n (xB_n (xB_l ⟨_, zs_aload_n em139_0, as_aload⟩) (xB_n (xB_l ⟨_, zs_iload_n em139_1, as_iload⟩) (xB_l ⟨_, zs_invV (T := TX12) em139_2 zl_181 rfl wd_1678 wd_1680 wd_82 ((congrFun xo_12 417).trans rfl) xm_155, ag_invV H zh_181 hd (by decide)⟩))) (xB_n (xB_l ⟨_, zs_ifeq em139_5 (t := 32) (by decide), as_if⟩) (xB_n (xB_l ⟨_, zs_iload_n em139_8, as_iload⟩) (xB_l ⟨_, zs_iconst (v := 0) em139_9 (by decide +kernel), as_const (by decide +kernel)⟩)))) (xB_n (xB_n (xB_l ⟨_, zs_aload_n em139_10, as_aload⟩) (xB_n (xB_l ⟨_, zs_getf (T := TX12) (M := 70) (ci := 12) (j := 36) em139_11 rfl inX12 (by decide) wd_1306 ((congrFun xo_12 52).trans rfl), as_getf zTie⟩) (xB_l ⟨_, zs_bipush (v := 7) em139_14 (by decide +kernel), as_const (by decide +kernel)⟩))) (xB_n (xB_l ⟨_, zs_aload_n em139_16, as_aload⟩) (xB_n (xB_l ⟨_, zs_getf (T := TX12) (M := 70) (ci := 12) (j := 2) em139_17 rfl inX12 (by decide) wd_1299 ((congrFun xo_12 230).trans rfl), as_getf zTie⟩) (xB_l ⟨_, zs_imul em139_20, as_bin fmul_ok⟩))))) (xB_n (xB_n (xB_n (xB_l ⟨_, zs_iload_n em139_21, as_iload⟩) (xB_n (xB_l ⟨_, zs_iadd em139_22, as_bin fadd_ok⟩) (xB_l ⟨_, zs_iald em139_23, ag_iald⟩))) (xB_n (xB_l ⟨_, zs_iconst (v := 1) em139_24 (by decide +kernel), as_const (by decide +kernel)⟩) (xB_n (xB_l ⟨_, zs_isub em139_25, as_bin fsub_ok⟩) (xB_l ⟨_, zs_invS em139_26 zl_159 wd_1629 wd_1630 ((congrFun xo_12 324).trans rfl) xm_148, ag_inv H zh_159 hd (by decide)⟩)))) (xB_n (xB_n (xB_l ⟨_, zs_ifne em139_29 (t := 34) (by decide), as_if⟩) (xB_n (xB_l ⟨_, zs_iconst (v := (-1)) em139_32 (by decide +kernel), as_const (by decide +kernel)⟩) (xB_l ⟨_, zs_aload_n em139_34, as_aload⟩))) (xB_n (xB_n (xB_l ⟨_, zs_invV (T := TX12) em139_35 zl_136 rfl wd_1635 wd_1637 wd_73 ((congrFun xo_12 411).trans rfl) xm_129, ag_invV H zh_136 hd (by decide)⟩) (xB_l ⟨_, zs_aload_n em139_38, as_aload⟩)) (xB_n (xB_l ⟨_, zs_getf (T := TX12) (M := 70) (ci := 12) (j := 0) em139_39 rfl inX12 (by decide) wd_1332 ((congrFun xo_12 116).trans rfl), as_getf zTie⟩) (xB_l ⟨_, zs_sipush (v := 320) em139_42 (by decide +kernel), as_const (by decide +kernel)⟩)))))) (xB_n (xB_n (xB_n (xB_n (xB_l ⟨_, zs_iload_n em139_45, as_iload⟩) (xB_n (xB_l ⟨_, zs_iadd em139_46, as_bin fadd_ok⟩) (xB_l ⟨_, zs_iald em139_47, ag_iald⟩))) (xB_n (xB_l ⟨_, zs_iconst (v := 3) em139_48 (by decide +kernel), as_const (by decide +kernel)⟩) (xB_n (xB_l ⟨_, zs_icmpne em139_49 (t := 55) (by decide), as_icmp⟩) (xB_l ⟨_, zs_bipush (v := (-3)) em139_52 (by decide +kernel), as_const (by decide +kernel)⟩)))) (xB_n (xB_n (xB_l ⟨_, zs_aload_n em139_55, as_aload⟩) (xB_n (xB_l ⟨_, zs_iload_n em139_56, as_iload⟩) (xB_l ⟨_, zs_invV (T := TX12) em139_57 zl_179 rfl wd_1711 wd_1713 wd_87 ((congrFun xo_12 383).trans rfl) xm_153, ag_invV H zh_179 hd (by decide)⟩))) (xB_n (xB_l ⟨_, zs_ifeq em139_60 (t := 74) (by decide), as_if⟩) (xB_n (xB_l ⟨_, zs_aload_n em139_63, as_aload⟩) (xB_l ⟨_, zs_iload_n em139_64, as_iload⟩))))) (xB_n (xB_n (xB_n (xB_l ⟨_, zs_invV (T := TX12) em139_65 zl_212 rfl wd_1715 wd_1717 wd_88 ((congrFun xo_12 421).trans rfl) xm_185, ag_invV H zh_212 hd (by decide)⟩) (xB_n (xB_l ⟨_, zs_ifne em139_68 (t := 74) (by decide), as_if⟩) (xB_l ⟨_, zs_bipush (v := (-2)) em139_71 (by decide +kernel), as_const (by decide +kernel)⟩))) (xB_n (xB_l ⟨_, zs_aload_n em139_74, as_aload⟩) (xB_n (xB_l ⟨_, zs_getf (T := TX12) (M := 70) (ci := 12) (j := 0) em139_75 rfl inX12 (by decide) wd_1332 ((congrFun xo_12 116).trans rfl), as_getf zTie⟩) (xB_l ⟨_, zs_sipush (v := 330) em139_78 (by decide +kernel), as_const (by decide +kernel)⟩)))) (xB_n (xB_n (xB_l ⟨_, zs_bipush (v := 8) em139_81 (by decide +kernel), as_const (by decide +kernel)⟩) (xB_n (xB_l ⟨_, zs_iload_n em139_83, as_iload⟩) (xB_l ⟨_, zs_imul em139_84, as_bin fmul_ok⟩))) (xB_n (xB_n (xB_l ⟨_, zs_iadd em139_85, as_bin fadd_ok⟩) (xB_l ⟨_, zs_iload_n em139_86, as_iload⟩)) (xB_n (xB_l ⟨_, zs_iadd em139_87, as_bin fadd_ok⟩) (xB_l ⟨_, zs_iald em139_88, ag_iald⟩)))))))
set_option maxRecDepth 100000 in
set_option maxHeartbeats 4000000 in
theorem zM_146 : zOKa 146 zc_146 := z_auto (cuts := []) (rets := [(33, 1), (54, 1), (73, 1), (89, 1)]) (fuel := 1000) rfl rfl (by decide) (xrt_ok (xR_c (Or.inl ⟨rfl, em139_33, rfl⟩) (xR_c (Or.inl ⟨rfl, em139_54, rfl⟩) (xR_c (Or.inl ⟨rfl, em139_73, rfl⟩) (xR_c (Or.inl ⟨rfl, em139_89, rfl⟩) (xR_n)))))) (fun _ _ H _ hd => zTo_146 H hd) (by decide +kernel)
theorem em140_0 : decode prog_14_method_81_code 0 = .ok (.aload_n 0, 1) := by decide +kernel
theorem em140_1 : decode prog_14_method_81_code 1 = .ok (.iload_n 1, 1) := by decide +kernel
theorem em140_2 : decode prog_14_method_81_code 2 = .ok (.iload_n 2, 1) := by decide +kernel
theorem em140_3 : decode prog_14_method_81_code 3 = .ok (.iload_n 3, 1) := by decide +kernel
theorem em140_4 : decode prog_14_method_81_code 4 = .ok (.invokevirtual 427, 3) := by decide +kernel
theorem em140_7 : decode prog_14_method_81_code 7 = .ok (.ifCond .ne 5, 3) := by decide +kernel
theorem em140_10 : decode prog_14_method_81_code 10 = .ok (.iconst 0, 1) := by decide +kernel
theorem em140_11 : decode prog_14_method_81_code 11 = .ok (.ireturn, 1) := by decide +kernel
theorem em140_12 : decode prog_14_method_81_code 12 = .ok (.aload_n 0, 1) := by decide +kernel
theorem em140_13 : decode prog_14_method_81_code 13 = .ok (.invokevirtual 411, 3) := by decide +kernel
theorem em140_16 : decode prog_14_method_81_code 16 = .ok (.bipush 120, 2) := by decide +kernel
theorem em140_18 : decode prog_14_method_81_code 18 = .ok (.bipush 40, 2) := by decide +kernel
theorem em140_20 : decode prog_14_method_81_code 20 = .ok (.iload_n 2, 1) := by decide +kernel
theorem em140_21 : decode prog_14_method_81_code 21 = .ok (.imul, 1) := by decide +kernel
theorem em140_22 : decode prog_14_method_81_code 22 = .ok (.iadd, 1) := by decide +kernel
theorem em140_23 : decode prog_14_method_81_code 23 = .ok (.bipush 8, 2) := by decide +kernel
theorem em140_25 : decode prog_14_method_81_code 25 = .ok (.iload_n 1, 1) := by decide +kernel
theorem em140_26 : decode prog_14_method_81_code 26 = .ok (.imul, 1) := by decide +kernel
theorem em140_27 : decode prog_14_method_81_code 27 = .ok (.iadd, 1) := by decide +kernel
theorem em140_28 : decode prog_14_method_81_code 28 = .ok (.iload_n 3, 1) := by decide +kernel
theorem em140_29 : decode prog_14_method_81_code 29 = .ok (.iadd, 1) := by decide +kernel
theorem em140_30 : decode prog_14_method_81_code 30 = .ok (.istore 4, 2) := by decide +kernel
theorem em140_32 : decode prog_14_method_81_code 32 = .ok (.aload_n 0, 1) := by decide +kernel
theorem em140_33 : decode prog_14_method_81_code 33 = .ok (.getfield 116, 3) := by decide +kernel
theorem em140_36 : decode prog_14_method_81_code 36 = .ok (.iload 4, 2) := by decide +kernel
theorem em140_38 : decode prog_14_method_81_code 38 = .ok (.iaload, 1) := by decide +kernel
theorem em140_39 : decode prog_14_method_81_code 39 = .ok (.ifCond .eq 12, 3) := by decide +kernel
theorem em140_42 : decode prog_14_method_81_code 42 = .ok (.aload_n 0, 1) := by decide +kernel
theorem em140_43 : decode prog_14_method_81_code 43 = .ok (.iload_n 1, 1) := by decide +kernel
theorem em140_44 : decode prog_14_method_81_code 44 = .ok (.iload_n 3, 1) := by decide +kernel
theorem em140_45 : decode prog_14_method_81_code 45 = .ok (.invokevirtual 368, 3) := by decide +kernel
theorem em140_48 : decode prog_14_method_81_code 48 = .ok (.ifCond .ne 5, 3) := by decide +kernel
theorem em140_51 : decode prog_14_method_81_code 51 = .ok (.iconst 0, 1) := by decide +kernel
theorem em140_52 : decode prog_14_method_81_code 52 = .ok (.ireturn, 1) := by decide +kernel
theorem em140_53 : decode prog_14_method_81_code 53 = .ok (.aload_n 0, 1) := by decide +kernel
theorem em140_54 : decode prog_14_method_81_code 54 = .ok (.getfield 116, 3) := by decide +kernel
theorem em140_57 : decode prog_14_method_81_code 57 = .ok (.bipush 8, 2) := by decide +kernel
theorem em140_59 : decode prog_14_method_81_code 59 = .ok (.iload_n 1, 1) := by decide +kernel
theorem em140_60 : decode prog_14_method_81_code 60 = .ok (.imul, 1) := by decide +kernel
theorem em140_61 : decode prog_14_method_81_code 61 = .ok (.iload_n 3, 1) := by decide +kernel
theorem em140_62 : decode prog_14_method_81_code 62 = .ok (.iadd, 1) := by decide +kernel
theorem em140_63 : decode prog_14_method_81_code 63 = .ok (.dup2, 1) := by decide +kernel
theorem em140_64 : decode prog_14_method_81_code 64 = .ok (.iaload, 1) := by decide +kernel
theorem em140_65 : decode prog_14_method_81_code 65 = .ok (.iconst 1, 1) := by decide +kernel
theorem em140_66 : decode prog_14_method_81_code 66 = .ok (.isub, 1) := by decide +kernel
theorem em140_67 : decode prog_14_method_81_code 67 = .ok (.iastore, 1) := by decide +kernel
theorem em140_68 : decode prog_14_method_81_code 68 = .ok (.aload_n 0, 1) := by decide +kernel
theorem em140_69 : decode prog_14_method_81_code 69 = .ok (.getfield 116, 3) := by decide +kernel
theorem em140_72 : decode prog_14_method_81_code 72 = .ok (.bipush 8, 2) := by decide +kernel
theorem em140_74 : decode prog_14_method_81_code 74 = .ok (.iload_n 2, 1) := by decide +kernel
theorem em140_75 : decode prog_14_method_81_code 75 = .ok (.imul, 1) := by decide +kernel
theorem em140_76 : decode prog_14_method_81_code 76 = .ok (.iload_n 3, 1) := by decide +kernel
theorem em140_77 : decode prog_14_method_81_code 77 = .ok (.iadd, 1) := by decide +kernel
theorem em140_78 : decode prog_14_method_81_code 78 = .ok (.dup2, 1) := by decide +kernel
theorem em140_79 : decode prog_14_method_81_code 79 = .ok (.iaload, 1) := by decide +kernel
theorem em140_80 : decode prog_14_method_81_code 80 = .ok (.iconst 1, 1) := by decide +kernel
theorem em140_81 : decode prog_14_method_81_code 81 = .ok (.iadd, 1) := by decide +kernel
theorem em140_82 : decode prog_14_method_81_code 82 = .ok (.iastore, 1) := by decide +kernel
theorem em140_83 : decode prog_14_method_81_code 83 = .ok (.aload_n 0, 1) := by decide +kernel
theorem em140_84 : decode prog_14_method_81_code 84 = .ok (.getfield 116, 3) := by decide +kernel
theorem em140_87 : decode prog_14_method_81_code 87 = .ok (.iload 4, 2) := by decide +kernel
theorem em140_89 : decode prog_14_method_81_code 89 = .ok (.dup2, 1) := by decide +kernel
theorem em140_90 : decode prog_14_method_81_code 90 = .ok (.iaload, 1) := by decide +kernel
theorem em140_91 : decode prog_14_method_81_code 91 = .ok (.iconst 1, 1) := by decide +kernel
theorem em140_92 : decode prog_14_method_81_code 92 = .ok (.isub, 1) := by decide +kernel
theorem em140_93 : decode prog_14_method_81_code 93 = .ok (.iastore, 1) := by decide +kernel
theorem em140_94 : decode prog_14_method_81_code 94 = .ok (.aload_n 0, 1) := by decide +kernel
theorem em140_95 : decode prog_14_method_81_code 95 = .ok (.invokevirtual 424, 3) := by decide +kernel
theorem em140_98 : decode prog_14_method_81_code 98 = .ok (.iconst 1, 1) := by decide +kernel
theorem em140_99 : decode prog_14_method_81_code 99 = .ok (.ireturn, 1) := by decide +kernel
/-! CapitalCaseModel.giveBack:(III)Z -/
noncomputable def zTr_147 : Nat → Option aF := bn 54 (bn 26 (bn 13 (bn 4 (bn 2 (bn 1 (bl 0 (a_aload 0 1)) (bl 1 (a_iload 1 2))) (bn 3 (bl 2 (a_iload 2 3)) (bl 3 (a_iload 3 4)))) (bn 10 (bn 7 (bl 4 (a_invV zG0 zprot (true, false) zc_124 (zbd 124) (3, 0, 0) 12 4 7)) (bl 7 (a_if 1 12 10))) (bn 12 (bl 10 (a_const 0 11)) (bl 12 (a_aload 0 13))))) (bn 21 (bn 18 (bn 16 (bl 13 (a_invV zG0 zprot (true, false) zc_136 (zbd 136) (3, 0, 0) 12 1 16)) (bl 16 (a_const 120 18))) (bn 20 (bl 18 (a_const 40 20)) (bl 20 (a_iload 2 21)))) (bn 23 (bn 22 (bl 21 (a_bin fmul 22)) (bl 22 (a_bin fadd 23))) (bn 25 (bl 23 (a_const 8 25)) (bl 25 (a_iload 1 26)))))) (bn 38 (bn 30 (bn 28 (bn 27 (bl 26 (a_bin fmul 27)) (bl 27 (a_bin fadd 28))) (bn 29 (bl 28 (a_iload 3 29)) (bl 29 (a_bin fadd 30)))) (bn 33 (bn 32 (bl 30 (a_istore 4 32)) (bl 32 (a_aload 0 33))) (bn 36 (bl 33 (a_getf zG0 zT0 12 0 36)) (bl 36 (a_iload 4 38))))) (bn 44 (bn 42 (bn 39 (bl 38 (a_ald zG0 zT0 (true, false) ts0 39)) (bl 39 (a_if 0 51 42))) (bn 43 (bl 42 (a_aload 0 43)) (bl 43 (a_iload 1 44)))) (bn 48 (bn 45 (bl 44 (a_iload 3 45)) (bl 45 (a_invV zG0 zprot (true, false) zc_145 (zbd 145) (3, 0, 0) 12 3 48))) (bn 51 (bl 48 (a_if 1 53 51)) (bn 53 (bl 51 (a_const 0 52)) (bl 53 (a_aload 0 54)))))))) (bn 77 (bn 65 (bn 61 (bn 59 (bn 57 (bl 54 (a_getf zG0 zT0 12 0 57)) (bl 57 (a_const 8 59))) (bn 60 (bl 59 (a_iload 1 60)) (bl 60 (a_bin fmul 61)))) (bn 63 (bn 62 (bl 61 (a_iload 3 62)) (bl 62 (a_bin fadd 63))) (bn 64 (bl 63 (a_dup2 64)) (bl 64 (a_ald zG0 zT0 (true, false) ts0 65))))) (bn 69 (bn 67 (bn 66 (bl 65 (a_const 1 66)) (bl 66 (a_bin fsub 67))) (bn 68 (bl 67 (a_ast zG0 zT0 ts0 68)) (bl 68 (a_aload 0 69)))) (bn 74 (bn 72 (bl 69 (a_getf zG0 zT0 12 0 72)) (bl 72 (a_const 8 74))) (bn 75 (bl 74 (a_iload 2 75)) (bn 76 (bl 75 (a_bin fmul 76)) (bl 76 (a_iload 3 77))))))) (bn 87 (bn 81 (bn 79 (bn 78 (bl 77 (a_bin fadd 78)) (bl 78 (a_dup2 79))) (bn 80 (bl 79 (a_ald zG0 zT0 (true, false) ts0 80)) (bl 80 (a_const 1 81)))) (bn 83 (bn 82 (bl 81 (a_bin fadd 82)) (bl 82 (a_ast zG0 zT0 ts0 83))) (bn 84 (bl 83 (a_aload 0 84)) (bl 84 (a_getf zG0 zT0 12 0 87))))) (bn 92 (bn 90 (bn 89 (bl 87 (a_iload 4 89)) (bl 89 (a_dup2 90))) (bn 91 (bl 90 (a_ald zG0 zT0 (true, false) ts0 91)) (bl 91 (a_const 1 92)))) (bn 94 (bn 93 (bl 92 (a_bin fsub 93)) (bl 93 (a_ast zG0 zT0 ts0 94))) (bn 95 (bl 94 (a_aload 0 95)) (bn 98 (bl 95 (a_invV zG0 zprot (true, false) zc_208 (zbd 208) (3, 0, 0) 12 1 98)) (bl 98 (a_const 1 99))))))))
set_option maxRecDepth 100000 in
set_option maxHeartbeats 4000000 in
theorem zTo_147 {pre : zPre} {post : zPost} (H : zTieC pre post) {d : Nat × Nat × Nat} (hd : zLe (3, 0, 0) d) : aTr zG0 zT0 zInv (true, false) PZ zbd pre post d prog_14_method_81_code "CapitalCaseModel" zTr_147 := (xB_n (xB_n (xB_n (xB_n (xB_n (xB_n (xB_l ⟨_, zs_aload_n em140_0, as_aload⟩) (xB_l ⟨_, zs_iload_n em140_1, as_iload⟩)) (xB_n (xB_l ⟨_, zs_iload_n em140_2, as_iload⟩) (xB_l ⟨_, zs_iload_n em140_3, as_iload⟩))) (xB_n (xB_n (xB_l ⟨_, zs_invV (T := TX12) em140_4 zl_124 rfl wd_1739 wd_1741 wd_92 ((congrFun xo_12 427).trans rfl) xm_117, ag_invV H zh_124 hd (by decide)⟩) (xB_l ⟨_, zs_ifne em140_7 (t := 12) (by decide), as_if⟩)) (xB_n (xB_l ⟨_, zs_iconst (v := 0) em140_10 (by decide +kernel), as_const (by decide +kernel)⟩) (xB_l ⟨_, zs_aload_n em140_12, as_aload⟩)))) (xB_n (xB_n (xB_n (xB_l ⟨_, zs_invV (T := TX12) em140_13 zl_136 rfl wd_1635 wd_1637 wd_73 ((congrFun xo_12 411).trans rfl) xm_129, ag_invV H zh_136 hd (by decide)⟩) (xB_l ⟨_, zs_bipush (v := 120) em140_16 (by decide +kernel), as_const (by decide +kernel)⟩)) (xB_n (xB_l ⟨_, zs_bipush (v := 40) em140_18 (by decide +kernel), as_const (by decide +kernel)⟩) (xB_l ⟨_, zs_iload_n em140_20, as_iload⟩))) (xB_n (xB_n (xB_l ⟨_, zs_imul em140_21, as_bin fmul_ok⟩) (xB_l ⟨_, zs_iadd em140_22, as_bin fadd_ok⟩)) (xB_n (xB_l ⟨_, zs_bipush (v := 8) em140_23 (by decide +kernel), as_const (by decide +kernel)⟩) (xB_l ⟨_, zs_iload_n em140_25, as_iload⟩))))) (xB_n (xB_n (xB_n (xB_n (xB_l ⟨_, zs_imul em140_26, as_bin fmul_ok⟩) (xB_l ⟨_, zs_iadd em140_27, as_bin fadd_ok⟩)) (xB_n (xB_l ⟨_, zs_iload_n em140_28, as_iload⟩) (xB_l ⟨_, zs_iadd em140_29, as_bin fadd_ok⟩))) (xB_n (xB_n (xB_l ⟨_, zs_istore em140_30, as_istore⟩) (xB_l ⟨_, zs_aload_n em140_32, as_aload⟩)) (xB_n (xB_l ⟨_, zs_getf (T := TX12) (M := 70) (ci := 12) (j := 0) em140_33 rfl inX12 (by decide) wd_1332 ((congrFun xo_12 116).trans rfl), as_getf zTie⟩) (xB_l ⟨_, zs_iload em140_36, as_iload⟩)))) (xB_n (xB_n (xB_n (xB_l ⟨_, zs_iald em140_38, ag_iald⟩) (xB_l ⟨_, zs_ifeq em140_39 (t := 51) (by decide), as_if⟩)) (xB_n (xB_l ⟨_, zs_aload_n em140_42, as_aload⟩) (xB_l ⟨_, zs_iload_n em140_43, as_iload⟩))) (xB_n (xB_n (xB_l ⟨_, zs_iload_n em140_44, as_iload⟩) (xB_l ⟨_, zs_invV (T := TX12) em140_45 zl_145 rfl wd_1639 wd_1641 wd_74 ((congrFun xo_12 368).trans rfl) xm_138, ag_invV H zh_145 hd (by decide)⟩)) (xB_n (xB_l ⟨_, zs_ifne em140_48 (t := 53) (by decide), as_if⟩) (xB_n (xB_l ⟨_, zs_iconst (v := 0) em140_51 (by decide +kernel), as_const (by decide +kernel)⟩) (xB_l ⟨_, zs_aload_n em140_53, as_aload⟩))))))) (xB_n (xB_n (xB_n (xB_n (xB_n (xB_l ⟨_, zs_getf (T := TX12) (M := 70) (ci := 12) (j := 0) em140_54 rfl inX12 (by decide) wd_1332 ((congrFun xo_12 116).trans rfl), as_getf zTie⟩) (xB_l ⟨_, zs_bipush (v := 8) em140_57 (by decide +kernel), as_const (by decide +kernel)⟩)) (xB_n (xB_l ⟨_, zs_iload_n em140_59, as_iload⟩) (xB_l ⟨_, zs_imul em140_60, as_bin fmul_ok⟩))) (xB_n (xB_n (xB_l ⟨_, zs_iload_n em140_61, as_iload⟩) (xB_l ⟨_, zs_iadd em140_62, as_bin fadd_ok⟩)) (xB_n (xB_l ⟨_, zs_dup2 em140_63, as_dup2⟩) (xB_l ⟨_, zs_iald em140_64, ag_iald⟩)))) (xB_n (xB_n (xB_n (xB_l ⟨_, zs_iconst (v := 1) em140_65 (by decide +kernel), as_const (by decide +kernel)⟩) (xB_l ⟨_, zs_isub em140_66, as_bin fsub_ok⟩)) (xB_n (xB_l ⟨_, zs_iast zInj0 em140_67, as_iast zTie⟩) (xB_l ⟨_, zs_aload_n em140_68, as_aload⟩))) (xB_n (xB_n (xB_l ⟨_, zs_getf (T := TX12) (M := 70) (ci := 12) (j := 0) em140_69 rfl inX12 (by decide) wd_1332 ((congrFun xo_12 116).trans rfl), as_getf zTie⟩) (xB_l ⟨_, zs_bipush (v := 8) em140_72 (by decide +kernel), as_const (by decide +kernel)⟩)) (xB_n (xB_l ⟨_, zs_iload_n em140_74, as_iload⟩) (xB_n (xB_l ⟨_, zs_imul em140_75, as_bin fmul_ok⟩) (xB_l ⟨_, zs_iload_n em140_76, as_iload⟩)))))) (xB_n (xB_n (xB_n (xB_n (xB_l ⟨_, zs_iadd em140_77, as_bin fadd_ok⟩) (xB_l ⟨_, zs_dup2 em140_78, as_dup2⟩)) (xB_n (xB_l ⟨_, zs_iald em140_79, ag_iald⟩) (xB_l ⟨_, zs_iconst (v := 1) em140_80 (by decide +kernel), as_const (by decide +kernel)⟩))) (xB_n (xB_n (xB_l ⟨_, zs_iadd em140_81, as_bin fadd_ok⟩) (xB_l ⟨_, zs_iast zInj0 em140_82, as_iast zTie⟩)) (xB_n (xB_l ⟨_, zs_aload_n em140_83, as_aload⟩) (xB_l ⟨_, zs_getf (T := TX12) (M := 70) (ci := 12) (j := 0) em140_84 rfl inX12 (by decide) wd_1332 ((congrFun xo_12 116).trans rfl), as_getf zTie⟩)))) (xB_n (xB_n (xB_n (xB_l ⟨_, zs_iload em140_87, as_iload⟩) (xB_l ⟨_, zs_dup2 em140_89, as_dup2⟩)) (xB_n (xB_l ⟨_, zs_iald em140_90, ag_iald⟩) (xB_l ⟨_, zs_iconst (v := 1) em140_91 (by decide +kernel), as_const (by decide +kernel)⟩))) (xB_n (xB_n (xB_l ⟨_, zs_isub em140_92, as_bin fsub_ok⟩) (xB_l ⟨_, zs_iast zInj0 em140_93, as_iast zTie⟩)) (xB_n (xB_l ⟨_, zs_aload_n em140_94, as_aload⟩) (xB_n (xB_l ⟨_, zs_invV (T := TX12) em140_95 zl_208 rfl wd_1727 wd_1729 wd_91 ((congrFun xo_12 424).trans rfl) xm_181, ag_invV H zh_208 hd (by decide)⟩) (xB_l ⟨_, zs_iconst (v := 1) em140_98 (by decide +kernel), as_const (by decide +kernel)⟩))))))))
set_option maxRecDepth 100000 in
set_option maxHeartbeats 4000000 in
theorem zM_147 : zOKa 147 zc_147 := z_auto (cuts := []) (rets := [(11, 2), (52, 2), (99, 2)]) (fuel := 1000) rfl rfl (by decide) (xrt_ok (xR_c (Or.inr (Or.inl ⟨rfl, em140_11, rfl⟩)) (xR_c (Or.inr (Or.inl ⟨rfl, em140_52, rfl⟩)) (xR_c (Or.inr (Or.inl ⟨rfl, em140_99, rfl⟩)) (xR_n))))) (fun _ _ H _ hd => zTo_147 H hd) (by decide +kernel)
theorem em141_0 : decode prog_14_method_63_code 0 = .ok (.iconst (-1), 1) := by decide +kernel
theorem em141_1 : decode prog_14_method_63_code 1 = .ok (.istore_n 3, 1) := by decide +kernel
theorem em141_2 : decode prog_14_method_63_code 2 = .ok (.iconst 0, 1) := by decide +kernel
theorem em141_3 : decode prog_14_method_63_code 3 = .ok (.istore 4, 2) := by decide +kernel
theorem em141_5 : decode prog_14_method_63_code 5 = .ok (.aload_n 0, 1) := by decide +kernel
theorem em141_6 : decode prog_14_method_63_code 6 = .ok (.iconst 0, 1) := by decide +kernel
theorem em141_7 : decode prog_14_method_63_code 7 = .ok (.putfield 365, 3) := by decide +kernel
theorem em141_10 : decode prog_14_method_63_code 10 = .ok (.iconst 0, 1) := by decide +kernel
theorem em141_11 : decode prog_14_method_63_code 11 = .ok (.istore 5, 2) := by decide +kernel
theorem em141_13 : decode prog_14_method_63_code 13 = .ok (.iload 5, 2) := by decide +kernel
theorem em141_15 : decode prog_14_method_63_code 15 = .ok (.aload_n 0, 1) := by decide +kernel
theorem em141_16 : decode prog_14_method_63_code 16 = .ok (.getfield 43, 3) := by decide +kernel
theorem em141_19 : decode prog_14_method_63_code 19 = .ok (.aload_n 0, 1) := by decide +kernel
theorem em141_20 : decode prog_14_method_63_code 20 = .ok (.getfield 230, 3) := by decide +kernel
theorem em141_23 : decode prog_14_method_63_code 23 = .ok (.iaload, 1) := by decide +kernel
theorem em141_24 : decode prog_14_method_63_code 24 = .ok (.if_icmp .ge 90, 3) := by decide +kernel
theorem em141_27 : decode prog_14_method_63_code 27 = .ok (.aload_n 0, 1) := by decide +kernel
theorem em141_28 : decode prog_14_method_63_code 28 = .ok (.iload 5, 2) := by decide +kernel
theorem em141_30 : decode prog_14_method_63_code 30 = .ok (.iload_n 1, 1) := by decide +kernel
theorem em141_31 : decode prog_14_method_63_code 31 = .ok (.invokevirtual 368, 3) := by decide +kernel
theorem em141_34 : decode prog_14_method_63_code 34 = .ok (.ifCond .eq 74, 3) := by decide +kernel
theorem em141_37 : decode prog_14_method_63_code 37 = .ok (.aload_n 0, 1) := by decide +kernel
theorem em141_38 : decode prog_14_method_63_code 38 = .ok (.iload 5, 2) := by decide +kernel
theorem em141_40 : decode prog_14_method_63_code 40 = .ok (.iload_n 1, 1) := by decide +kernel
theorem em141_41 : decode prog_14_method_63_code 41 = .ok (.iload_n 2, 1) := by decide +kernel
theorem em141_42 : decode prog_14_method_63_code 42 = .ok (.invokevirtual 371, 3) := by decide +kernel
theorem em141_45 : decode prog_14_method_63_code 45 = .ok (.ifCond .ne 6, 3) := by decide +kernel
theorem em141_48 : decode prog_14_method_63_code 48 = .ok (.goto 60, 3) := by decide +kernel
theorem em141_51 : decode prog_14_method_63_code 51 = .ok (.aload_n 0, 1) := by decide +kernel
theorem em141_52 : decode prog_14_method_63_code 52 = .ok (.iload 5, 2) := by decide +kernel
theorem em141_54 : decode prog_14_method_63_code 54 = .ok (.iload_n 1, 1) := by decide +kernel
theorem em141_55 : decode prog_14_method_63_code 55 = .ok (.iload_n 2, 1) := by decide +kernel
theorem em141_56 : decode prog_14_method_63_code 56 = .ok (.invokevirtual 374, 3) := by decide +kernel
theorem em141_59 : decode prog_14_method_63_code 59 = .ok (.istore 6, 2) := by decide +kernel
theorem em141_61 : decode prog_14_method_63_code 61 = .ok (.iload_n 3, 1) := by decide +kernel
theorem em141_62 : decode prog_14_method_63_code 62 = .ok (.ifCond .lt 20, 3) := by decide +kernel
theorem em141_65 : decode prog_14_method_63_code 65 = .ok (.iload 6, 2) := by decide +kernel
theorem em141_67 : decode prog_14_method_63_code 67 = .ok (.iload 4, 2) := by decide +kernel
theorem em141_69 : decode prog_14_method_63_code 69 = .ok (.if_icmp .ne 13, 3) := by decide +kernel
theorem em141_72 : decode prog_14_method_63_code 72 = .ok (.aload_n 0, 1) := by decide +kernel
theorem em141_73 : decode prog_14_method_63_code 73 = .ok (.dup, 1) := by decide +kernel
theorem em141_74 : decode prog_14_method_63_code 74 = .ok (.getfield 365, 3) := by decide +kernel
theorem em141_77 : decode prog_14_method_63_code 77 = .ok (.iconst 1, 1) := by decide +kernel
theorem em141_78 : decode prog_14_method_63_code 78 = .ok (.iadd, 1) := by decide +kernel
theorem em141_79 : decode prog_14_method_63_code 79 = .ok (.putfield 365, 3) := by decide +kernel
theorem em141_82 : decode prog_14_method_63_code 82 = .ok (.iload_n 3, 1) := by decide +kernel
theorem em141_83 : decode prog_14_method_63_code 83 = .ok (.ifCond .lt 13, 3) := by decide +kernel
theorem em141_86 : decode prog_14_method_63_code 86 = .ok (.iload 6, 2) := by decide +kernel
theorem em141_88 : decode prog_14_method_63_code 88 = .ok (.iload 4, 2) := by decide +kernel
theorem em141_90 : decode prog_14_method_63_code 90 = .ok (.if_icmp .gt 6, 3) := by decide +kernel
theorem em141_93 : decode prog_14_method_63_code 93 = .ok (.goto 15, 3) := by decide +kernel
theorem em141_96 : decode prog_14_method_63_code 96 = .ok (.iload 5, 2) := by decide +kernel
theorem em141_98 : decode prog_14_method_63_code 98 = .ok (.istore_n 3, 1) := by decide +kernel
theorem em141_99 : decode prog_14_method_63_code 99 = .ok (.iload 6, 2) := by decide +kernel
theorem em141_101 : decode prog_14_method_63_code 101 = .ok (.istore 4, 2) := by decide +kernel
theorem em141_103 : decode prog_14_method_63_code 103 = .ok (.aload_n 0, 1) := by decide +kernel
theorem em141_104 : decode prog_14_method_63_code 104 = .ok (.iconst 1, 1) := by decide +kernel
theorem em141_105 : decode prog_14_method_63_code 105 = .ok (.putfield 365, 3) := by decide +kernel
theorem em141_108 : decode prog_14_method_63_code 108 = .ok (.iinc 5 1, 3) := by decide +kernel
theorem em141_111 : decode prog_14_method_63_code 111 = .ok (.goto (-98), 3) := by decide +kernel
theorem em141_114 : decode prog_14_method_63_code 114 = .ok (.iload_n 3, 1) := by decide +kernel
theorem em141_115 : decode prog_14_method_63_code 115 = .ok (.ireturn, 1) := by decide +kernel
/-! CapitalCaseModel.giverOf:(II)I -/
noncomputable def zTr_148 : Nat → Option aF := bn 54 (bn 24 (bn 10 (bn 3 (bn 1 (bl 0 (a_const (-1) 1)) (bn 2 (bl 1 (a_istore 3 2)) (bl 2 (a_const 0 3)))) (bn 6 (bn 5 (bl 3 (a_istore 4 5)) (bl 5 (a_aload 0 6))) (bn 7 (bl 6 (a_const 0 7)) (bl 7 (a_puti zG0 zT0 zprot 12 59 0 10))))) (bn 16 (bn 13 (bn 11 (bl 10 (a_const 0 11)) (bl 11 (a_istore 5 13))) (bn 15 (bl 13 (a_iload 5 15)) (bl 15 (a_aload 0 16)))) (bn 20 (bn 19 (bl 16 (a_getf zG0 zT0 12 3 19)) (bl 19 (a_aload 0 20))) (bn 23 (bl 20 (a_getf zG0 zT0 12 2 23)) (bl 23 (a_ald zG0 zT0 (true, false) ts0 24)))))) (bn 38 (bn 30 (bn 27 (bl 24 (a_icmp 3 114 27)) (bn 28 (bl 27 (a_aload 0 28)) (bl 28 (a_iload 5 30)))) (bn 34 (bn 31 (bl 30 (a_iload 1 31)) (bl 31 (a_invV zG0 zprot (true, false) zc_145 (zbd 145) (7, 0, 0) 12 3 34))) (bn 37 (bl 34 (a_if 0 108 37)) (bl 37 (a_aload 0 38))))) (bn 45 (bn 41 (bn 40 (bl 38 (a_iload 5 40)) (bl 40 (a_iload 1 41))) (bn 42 (bl 41 (a_iload 2 42)) (bl 42 (a_invV zG0 zprot (true, false) zc_149 (zbd 149) (7, 0, 0) 12 4 45)))) (bn 51 (bn 48 (bl 45 (a_if 1 51 48)) (bl 48 (a_goto 108))) (bn 52 (bl 51 (a_aload 0 52)) (bl 52 (a_iload 5 54))))))) (bn 82 (bn 67 (bn 59 (bn 55 (bl 54 (a_iload 1 55)) (bn 56 (bl 55 (a_iload 2 56)) (bl 56 (a_invV zG0 zprot (true, false) zc_206 (zbd 206) (7, 0, 0) 12 4 59)))) (bn 62 (bn 61 (bl 59 (a_istore 6 61)) (bl 61 (a_iload 3 62))) (bn 65 (bl 62 (a_if 2 82 65)) (bl 65 (a_iload 6 67))))) (bn 74 (bn 72 (bn 69 (bl 67 (a_iload 4 69)) (bl 69 (a_icmp 1 82 72))) (bn 73 (bl 72 (a_aload 0 73)) (bl 73 (a_dup 74)))) (bn 78 (bn 77 (bl 74 (a_getf zG0 zT0 12 59 77)) (bl 77 (a_const 1 78))) (bn 79 (bl 78 (a_bin fadd 79)) (bl 79 (a_puti zG0 zT0 zprot 12 59 0 82)))))) (bn 99 (bn 90 (bn 86 (bn 83 (bl 82 (a_iload 3 83)) (bl 83 (a_if 2 96 86))) (bn 88 (bl 86 (a_iload 6 88)) (bl 88 (a_iload 4 90)))) (bn 96 (bn 93 (bl 90 (a_icmp 4 96 93)) (bl 93 (a_goto 108))) (bn 98 (bl 96 (a_iload 5 98)) (bl 98 (a_istore 3 99))))) (bn 105 (bn 103 (bn 101 (bl 99 (a_iload 6 101)) (bl 101 (a_istore 4 103))) (bn 104 (bl 103 (a_aload 0 104)) (bl 104 (a_const 1 105)))) (bn 111 (bn 108 (bl 105 (a_puti zG0 zT0 zprot 12 59 0 108)) (bl 108 (a_iinc 5 1 111))) (bn 114 (bl 111 (a_goto 13)) (bl 114 (a_iload 3 115)))))))
set_option maxRecDepth 100000 in
set_option maxHeartbeats 4000000 in
theorem zTo_148 {pre : zPre} {post : zPost} (H : zTieC pre post) {d : Nat × Nat × Nat} (hd : zLe (7, 0, 0) d) : aTr zG0 zT0 zInv (true, false) PZ zbd pre post d prog_14_method_63_code "CapitalCaseModel" zTr_148 := (xB_n (xB_n (xB_n (xB_n (xB_n (xB_l ⟨_, zs_iconst (v := (-1)) em141_0 (by decide +kernel), as_const (by decide +kernel)⟩) (xB_n (xB_l ⟨_, zs_istore_n em141_1, as_istore⟩) (xB_l ⟨_, zs_iconst (v := 0) em141_2 (by decide +kernel), as_const (by decide +kernel)⟩))) (xB_n (xB_n (xB_l ⟨_, zs_istore em141_3, as_istore⟩) (xB_l ⟨_, zs_aload_n em141_5, as_aload⟩)) (xB_n (xB_l ⟨_, zs_iconst (v := 0) em141_6 (by decide +kernel), as_const (by decide +kernel)⟩) (xB_l ⟨_, zs_puti zInj0 (T := TX12) (M := 70) (ty := tyX12) (ci := 12) (j := 59) (kd := 0) em141_7 rfl inX12 tyX12_ok nmX12 (by decide) wd_1336 (Or.inl ⟨rfl, rfl⟩) rfl ((congrFun xo_12 365).trans rfl), ag_puti0⟩)))) (xB_n (xB_n (xB_n (xB_l ⟨_, zs_iconst (v := 0) em141_10 (by decide +kernel), as_const (by decide +kernel)⟩) (xB_l ⟨_, zs_istore em141_11, as_istore⟩)) (xB_n (xB_l ⟨_, zs_iload em141_13, as_iload⟩) (xB_l ⟨_, zs_aload_n em141_15, as_aload⟩))) (xB_n (xB_n (xB_l ⟨_, zs_getf (T := TX12) (M := 70) (ci := 12) (j := 3) em141_16 rfl inX12 (by decide) wd_1303 ((congrFun xo_12 43).trans rfl), as_getf zTie⟩) (xB_l ⟨_, zs_aload_n em141_19, as_aload⟩)) (xB_n (xB_l ⟨_, zs_getf (T := TX12) (M := 70) (ci := 12) (j := 2) em141_20 rfl inX12 (by decide) wd_1299 ((congrFun xo_12 230).trans rfl), as_getf zTie⟩) (xB_l ⟨_, zs_iald em141_23, ag_iald⟩))))) (xB_n (xB_n (xB_n (xB_l ⟨_, zs_icmpge em141_24 (t := 114) (by decide), as_icmp⟩) (xB_n (xB_l ⟨_, zs_aload_n em141_27, as_aload⟩) (xB_l ⟨_, zs_iload em141_28, as_iload⟩))) (xB_n (xB_n (xB_l ⟨_, zs_iload_n em141_30, as_iload⟩) (xB_l ⟨_, zs_invV (T := TX12) em141_31 zl_145 rfl wd_1639 wd_1641 wd_74 ((congrFun xo_12 368).trans rfl) xm_138, ag_invV H zh_145 hd (by decide)⟩)) (xB_n (xB_l ⟨_, zs_ifeq em141_34 (t := 108) (by decide), as_if⟩) (xB_l ⟨_, zs_aload_n em141_37, as_aload⟩)))) (xB_n (xB_n (xB_n (xB_l ⟨_, zs_iload em141_38, as_iload⟩) (xB_l ⟨_, zs_iload_n em141_40, as_iload⟩)) (xB_n (xB_l ⟨_, zs_iload_n em141_41, as_iload⟩) (xB_l ⟨_, zs_invV (T := TX12) em141_42 zl_149 rfl wd_1703 wd_1705 wd_86 ((congrFun xo_12 371).trans rfl) xm_142, ag_invV H zh_149 hd (by decide)⟩))) (xB_n (xB_n (xB_l ⟨_, zs_ifne em141_45 (t := 51) (by decide), as_if⟩) (xB_l ⟨_, zs_goto em141_48 (t := 108) (by decide), as_goto⟩)) (xB_n (xB_l ⟨_, zs_aload_n em141_51, as_aload⟩) (xB_l ⟨_, zs_iload em141_52, as_iload⟩)))))) (xB_n (xB_n (xB_n (xB_n (xB_l ⟨_, zs_iload_n em141_54, as_iload⟩) (xB_n (xB_l ⟨_, zs_iload_n em141_55, as_iload⟩) (xB_l ⟨_, zs_invV (T := TX12) em141_56 zl_206 rfl wd_1699 wd_1701 wd_85 ((congrFun xo_12 374).trans rfl) xm_179, ag_invV H zh_206 hd (by decide)⟩))) (xB_n (xB_n (xB_l ⟨_, zs_istore em141_59, as_istore⟩) (xB_l ⟨_, zs_iload_n em141_61, as_iload⟩)) (xB_n (xB_l ⟨_, zs_iflt em141_62 (t := 82) (by decide), as_if⟩) (xB_l ⟨_, zs_iload em141_65, as_iload⟩)))) (xB_n (xB_n (xB_n (xB_l ⟨_, zs_iload em141_67, as_iload⟩) (xB_l ⟨_, zs_icmpne em141_69 (t := 82) (by decide), as_icmp⟩)) (xB_n (xB_l ⟨_, zs_aload_n em141_72, as_aload⟩) (xB_l ⟨_, zs_dup em141_73, as_dup⟩))) (xB_n (xB_n (xB_l ⟨_, zs_getf (T := TX12) (M := 70) (ci := 12) (j := 59) em141_74 rfl inX12 (by decide) wd_1336 ((congrFun xo_12 365).trans rfl), as_getf zTie⟩) (xB_l ⟨_, zs_iconst (v := 1) em141_77 (by decide +kernel), as_const (by decide +kernel)⟩)) (xB_n (xB_l ⟨_, zs_iadd em141_78, as_bin fadd_ok⟩) (xB_l ⟨_, zs_puti zInj0 (T := TX12) (M := 70) (ty := tyX12) (ci := 12) (j := 59) (kd := 0) em141_79 rfl inX12 tyX12_ok nmX12 (by decide) wd_1336 (Or.inl ⟨rfl, rfl⟩) rfl ((congrFun xo_12 365).trans rfl), ag_puti0⟩))))) (xB_n (xB_n (xB_n (xB_n (xB_l ⟨_, zs_iload_n em141_82, as_iload⟩) (xB_l ⟨_, zs_iflt em141_83 (t := 96) (by decide), as_if⟩)) (xB_n (xB_l ⟨_, zs_iload em141_86, as_iload⟩) (xB_l ⟨_, zs_iload em141_88, as_iload⟩))) (xB_n (xB_n (xB_l ⟨_, zs_icmpgt em141_90 (t := 96) (by decide), as_icmp⟩) (xB_l ⟨_, zs_goto em141_93 (t := 108) (by decide), as_goto⟩)) (xB_n (xB_l ⟨_, zs_iload em141_96, as_iload⟩) (xB_l ⟨_, zs_istore_n em141_98, as_istore⟩)))) (xB_n (xB_n (xB_n (xB_l ⟨_, zs_iload em141_99, as_iload⟩) (xB_l ⟨_, zs_istore em141_101, as_istore⟩)) (xB_n (xB_l ⟨_, zs_aload_n em141_103, as_aload⟩) (xB_l ⟨_, zs_iconst (v := 1) em141_104 (by decide +kernel), as_const (by decide +kernel)⟩))) (xB_n (xB_n (xB_l ⟨_, zs_puti zInj0 (T := TX12) (M := 70) (ty := tyX12) (ci := 12) (j := 59) (kd := 0) em141_105 rfl inX12 tyX12_ok nmX12 (by decide) wd_1336 (Or.inl ⟨rfl, rfl⟩) rfl ((congrFun xo_12 365).trans rfl), ag_puti0⟩) (xB_l ⟨_, zs_iinc (k := 1) em141_108 (by decide +kernel), as_iinc (by decide +kernel)⟩)) (xB_n (xB_l ⟨_, zs_goto em141_111 (t := 13) (by decide), as_goto⟩) (xB_l ⟨_, zs_iload_n em141_114, as_iload⟩)))))))
set_option maxRecDepth 100000 in
set_option maxHeartbeats 4000000 in
theorem zM_148 : zOKa 148 zc_148 := z_auto (cuts := [(13, ([(0, 0), (0, 7), (0, 6), (0, 1), ((-1), 4), ((-2147483648), 2147483647), (0, 5)], [], [some (.inr (.inl (0, 75))), some (.inl (1, 0)), some (.inl (2, 0)), some (.inl (4, 0)), some (.inl (5, 0)), some (.inl (6, 0)), none], [], [(22, 3, 0)], (0, 0)), [(0, 3), (0, 4), (0, 5)], 5, [0, 0, 0, 0, 0, 0, (-1)])]) (rets := [(115, 1)]) (fuel := 1000) rfl rfl (by decide) (xrt_ok (xR_c (Or.inl ⟨rfl, em141_115, rfl⟩) (xR_n))) (fun _ _ H _ hd => zTo_148 H hd) (by decide +kernel)
theorem em142_0 : decode prog_14_method_59_code 0 = .ok (.aload_n 0, 1) := by decide +kernel
theorem em142_1 : decode prog_14_method_59_code 1 = .ok (.iload_n 1, 1) := by decide +kernel
theorem em142_2 : decode prog_14_method_59_code 2 = .ok (.iload_n 2, 1) := by decide +kernel
theorem em142_3 : decode prog_14_method_59_code 3 = .ok (.invokevirtual 353, 3) := by decide +kernel
theorem em142_6 : decode prog_14_method_59_code 6 = .ok (.aload_n 0, 1) := by decide +kernel
theorem em142_7 : decode prog_14_method_59_code 7 = .ok (.iload_n 3, 1) := by decide +kernel
theorem em142_8 : decode prog_14_method_59_code 8 = .ok (.invokevirtual 356, 3) := by decide +kernel
theorem em142_11 : decode prog_14_method_59_code 11 = .ok (.aload_n 0, 1) := by decide +kernel
theorem em142_12 : decode prog_14_method_59_code 12 = .ok (.iconst 0, 1) := by decide +kernel
theorem em142_13 : decode prog_14_method_59_code 13 = .ok (.iconst 1, 1) := by decide +kernel
theorem em142_14 : decode prog_14_method_59_code 14 = .ok (.invokevirtual 359, 3) := by decide +kernel
theorem em142_17 : decode prog_14_method_59_code 17 = .ok (.ifCond .le 7, 3) := by decide +kernel
theorem em142_20 : decode prog_14_method_59_code 20 = .ok (.iconst 1, 1) := by decide +kernel
theorem em142_21 : decode prog_14_method_59_code 21 = .ok (.goto 4, 3) := by decide +kernel
theorem em142_24 : decode prog_14_method_59_code 24 = .ok (.iconst 0, 1) := by decide +kernel
theorem em142_25 : decode prog_14_method_59_code 25 = .ok (.ireturn, 1) := by decide +kernel
/-! CapitalCaseModel.givesLeave:(III)Z -/
noncomputable def zTr_149 : Nat → Option aF := bn 11 (bn 3 (bn 1 (bl 0 (a_aload 0 1)) (bn 2 (bl 1 (a_iload 1 2)) (bl 2 (a_iload 2 3)))) (bn 7 (bn 6 (bl 3 (a_invV zG0 zprot (true, false) zc_191 (zbd 191) (6, 0, 0) 12 3 6)) (bl 6 (a_aload 0 7))) (bn 8 (bl 7 (a_iload 3 8)) (bl 8 (a_invV zG0 zprot (true, false) zc_192 (zbd 192) (6, 0, 0) 12 2 11))))) (bn 17 (bn 13 (bn 12 (bl 11 (a_aload 0 12)) (bl 12 (a_const 0 13))) (bn 14 (bl 13 (a_const 1 14)) (bl 14 (a_invV zG0 zprot (true, false) zc_185 (zbd 185) (6, 0, 0) 12 3 17)))) (bn 21 (bn 20 (bl 17 (a_if 5 24 20)) (bl 20 (a_const 1 21))) (bn 24 (bl 21 (a_goto 25)) (bl 24 (a_const 0 25)))))
set_option maxRecDepth 100000 in
set_option maxHeartbeats 4000000 in
theorem zTo_149 {pre : zPre} {post : zPost} (H : zTieC pre post) {d : Nat × Nat × Nat} (hd : zLe (6, 0, 0) d) : aTr zG0 zT0 zInv (true, false) PZ zbd pre post d prog_14_method_59_code "CapitalCaseModel" zTr_149 := (xB_n (xB_n (xB_n (xB_l ⟨_, zs_aload_n em142_0, as_aload⟩) (xB_n (xB_l ⟨_, zs_iload_n em142_1, as_iload⟩) (xB_l ⟨_, zs_iload_n em142_2, as_iload⟩))) (xB_n (xB_n (xB_l ⟨_, zs_invV (T := TX12) em142_3 zl_191 rfl wd_1655 wd_1657 wd_78 ((congrFun xo_12 353).trans rfl) xm_165, ag_invV H zh_191 hd (by decide)⟩) (xB_l ⟨_, zs_aload_n em142_6, as_aload⟩)) (xB_n (xB_l ⟨_, zs_iload_n em142_7, as_iload⟩) (xB_l ⟨_, zs_invV (T := TX12) em142_8 zl_192 rfl wd_1686 wd_1688 wd_84 ((congrFun xo_12 356).trans rfl) xm_166, ag_invV H zh_192 hd (by decide)⟩)))) (xB_n (xB_n (xB_n (xB_l ⟨_, zs_aload_n em142_11, as_aload⟩) (xB_l ⟨_, zs_iconst (v := 0) em142_12 (by decide +kernel), as_const (by decide +kernel)⟩)) (xB_n (xB_l ⟨_, zs_iconst (v := 1) em142_13 (by decide +kernel), as_const (by decide +kernel)⟩) (xB_l ⟨_, zs_invV (T := TX12) em142_14 zl_185 rfl wd_1663 wd_1665 wd_80 ((congrFun xo_12 359).trans rfl) xm_159, ag_invV H zh_185 hd (by decide)⟩))) (xB_n (xB_n (xB_l ⟨_, zs_ifle em142_17 (t := 24) (by decide), as_if⟩) (xB_l ⟨_, zs_iconst (v := 1) em142_20 (by decide +kernel), as_const (by decide +kernel)⟩)) (xB_n (xB_l ⟨_, zs_goto em142_21 (t := 25) (by decide), as_goto⟩) (xB_l ⟨_, zs_iconst (v := 0) em142_24 (by decide +kernel), as_const (by decide +kernel)⟩)))))
set_option maxRecDepth 100000 in
set_option maxHeartbeats 4000000 in
theorem zM_149 : zOKa 149 zc_149 := z_auto (cuts := []) (rets := [(25, 2)]) (fuel := 1000) rfl rfl (by decide) (xrt_ok (xR_c (Or.inr (Or.inl ⟨rfl, em142_25, rfl⟩)) (xR_n))) (fun _ _ H _ hd => zTo_149 H hd) (by decide +kernel)
theorem em143_0 : decode prog_14_method_71_code 0 = .ok (.iconst 0, 1) := by decide +kernel
theorem em143_1 : decode prog_14_method_71_code 1 = .ok (.istore_n 2, 1) := by decide +kernel
theorem em143_2 : decode prog_14_method_71_code 2 = .ok (.iload_n 2, 1) := by decide +kernel
theorem em143_3 : decode prog_14_method_71_code 3 = .ok (.iload_n 1, 1) := by decide +kernel
theorem em143_4 : decode prog_14_method_71_code 4 = .ok (.if_icmp .ge 13, 3) := by decide +kernel
theorem em143_7 : decode prog_14_method_71_code 7 = .ok (.aload_n 0, 1) := by decide +kernel
theorem em143_8 : decode prog_14_method_71_code 8 = .ok (.invokevirtual 402, 3) := by decide +kernel
theorem em143_11 : decode prog_14_method_71_code 11 = .ok (.iinc 2 1, 3) := by decide +kernel
theorem em143_14 : decode prog_14_method_71_code 14 = .ok (.goto (-12), 3) := by decide +kernel
theorem em143_17 : decode prog_14_method_71_code 17 = .ok (.return_, 1) := by decide +kernel
/-! CapitalCaseModel.goes:(I)V -/
noncomputable def zTr_150 : Nat → Option aF := bn 4 (bn 2 (bn 1 (bl 0 (a_const 0 1)) (bl 1 (a_istore 2 2))) (bn 3 (bl 2 (a_iload 2 3)) (bl 3 (a_iload 1 4)))) (bn 8 (bn 7 (bl 4 (a_icmp 3 17 7)) (bl 7 (a_aload 0 8))) (bn 11 (bl 8 (a_invV zG0 zprot (true, false) zc_138 (zbd 138) (8, 0, 0) 12 1 11)) (bn 14 (bl 11 (a_iinc 2 1 14)) (bl 14 (a_goto 2)))))
set_option maxRecDepth 100000 in
set_option maxHeartbeats 4000000 in
theorem zTo_150 {pre : zPre} {post : zPost} (H : zTieC pre post) {d : Nat × Nat × Nat} (hd : zLe (8, 0, 0) d) : aTr zG0 zT0 zInv (true, false) PZ zbd pre post d prog_14_method_71_code "CapitalCaseModel" zTr_150 := (xB_n (xB_n (xB_n (xB_l ⟨_, zs_iconst (v := 0) em143_0 (by decide +kernel), as_const (by decide +kernel)⟩) (xB_l ⟨_, zs_istore_n em143_1, as_istore⟩)) (xB_n (xB_l ⟨_, zs_iload_n em143_2, as_iload⟩) (xB_l ⟨_, zs_iload_n em143_3, as_iload⟩))) (xB_n (xB_n (xB_l ⟨_, zs_icmpge em143_4 (t := 17) (by decide), as_icmp⟩) (xB_l ⟨_, zs_aload_n em143_7, as_aload⟩)) (xB_n (xB_l ⟨_, zs_invV (T := TX12) em143_8 zl_138 rfl wd_1758 wd_1760 wd_94 ((congrFun xo_12 402).trans rfl) xm_131, ag_invV H zh_138 hd (by decide)⟩) (xB_n (xB_l ⟨_, zs_iinc (k := 1) em143_11 (by decide +kernel), as_iinc (by decide +kernel)⟩) (xB_l ⟨_, zs_goto em143_14 (t := 2) (by decide), as_goto⟩)))))
set_option maxRecDepth 100000 in
set_option maxHeartbeats 4000000 in
theorem zM_150 : zOKa 150 zc_150 := z_auto (cuts := [(2, ([(0, 0), (0, 60), (0, 1), (0, 60)], [], [some (.inr (.inl (0, 75))), some (.inl (1, 0)), some (.inl (3, 0))], [], [(22, 2, 0)], (0, 0)), [(0, 2)], 60, [0, 0, 0, (-1)])]) (rets := [(17, 3)]) (fuel := 1000) rfl rfl (by decide) (xrt_ok (xR_c (Or.inr (Or.inr (Or.inl ⟨rfl, em143_17, rfl⟩))) (xR_n))) (fun _ _ H _ hd => zTo_150 H hd) (by decide +kernel)
theorem em144_0 : decode prog_14_method_17_code 0 = .ok (.aload_n 0, 1) := by decide +kernel
theorem em144_1 : decode prog_14_method_17_code 1 = .ok (.getfield 203, 3) := by decide +kernel
theorem em144_4 : decode prog_14_method_17_code 4 = .ok (.sipush 400, 3) := by decide +kernel
theorem em144_7 : decode prog_14_method_17_code 7 = .ok (.if_icmp .ne 11, 3) := by decide +kernel
theorem em144_10 : decode prog_14_method_17_code 10 = .ok (.aload_n 0, 1) := by decide +kernel
theorem em144_11 : decode prog_14_method_17_code 11 = .ok (.iconst 2, 1) := by decide +kernel
theorem em144_12 : decode prog_14_method_17_code 12 = .ok (.invokevirtual 215, 3) := by decide +kernel
theorem em144_15 : decode prog_14_method_17_code 15 = .ok (.goto 13, 3) := by decide +kernel
theorem em144_18 : decode prog_14_method_17_code 18 = .ok (.aload_n 0, 1) := by decide +kernel
theorem em144_19 : decode prog_14_method_17_code 19 = .ok (.dup, 1) := by decide +kernel
theorem em144_20 : decode prog_14_method_17_code 20 = .ok (.getfield 203, 3) := by decide +kernel
theorem em144_23 : decode prog_14_method_17_code 23 = .ok (.iconst 1, 1) := by decide +kernel
theorem em144_24 : decode prog_14_method_17_code 24 = .ok (.iadd, 1) := by decide +kernel
theorem em144_25 : decode prog_14_method_17_code 25 = .ok (.putfield 203, 3) := by decide +kernel
theorem em144_28 : decode prog_14_method_17_code 28 = .ok (.return_, 1) := by decide +kernel
/-! CapitalCaseModel.goesOn:()V -/
noncomputable def zTr_151 : Nat → Option aF := bn 15 (bn 7 (bn 1 (bl 0 (a_aload 0 1)) (bn 4 (bl 1 (a_getf zG0 zT0 12 25 4)) (bl 4 (a_const 400 7)))) (bn 11 (bn 10 (bl 7 (a_icmp 1 18 10)) (bl 10 (a_aload 0 11))) (bn 12 (bl 11 (a_const 2 12)) (bl 12 (a_invV zG0 zprot (false, false) zc_140 (zbd 140) (1, 0, 0) 12 2 15))))) (bn 20 (bn 18 (bl 15 (a_goto 28)) (bn 19 (bl 18 (a_aload 0 19)) (bl 19 (a_dup 20)))) (bn 24 (bn 23 (bl 20 (a_getf zG0 zT0 12 25 23)) (bl 23 (a_const 1 24))) (bn 25 (bl 24 (a_bin fadd 25)) (bl 25 (a_puti zG0 zT0 zprot 12 25 0 28)))))
set_option maxRecDepth 100000 in
set_option maxHeartbeats 4000000 in
theorem zTo_151 {pre : zPre} {post : zPost} (H : zTieC pre post) {d : Nat × Nat × Nat} (hd : zLe (1, 0, 0) d) : aTr zG0 zT0 zInv (false, false) PZ zbd pre post d prog_14_method_17_code "CapitalCaseModel" zTr_151 := (xB_n (xB_n (xB_n (xB_l ⟨_, zs_aload_n em144_0, as_aload⟩) (xB_n (xB_l ⟨_, zs_getf (T := TX12) (M := 70) (ci := 12) (j := 25) em144_1 rfl inX12 (by decide) wd_1292 ((congrFun xo_12 203).trans rfl), as_getf zTie⟩) (xB_l ⟨_, zs_sipush (v := 400) em144_4 (by decide +kernel), as_const (by decide +kernel)⟩))) (xB_n (xB_n (xB_l ⟨_, zs_icmpne em144_7 (t := 18) (by decide), as_icmp⟩) (xB_l ⟨_, zs_aload_n em144_10, as_aload⟩)) (xB_n (xB_l ⟨_, zs_iconst (v := 2) em144_11 (by decide +kernel), as_const (by decide +kernel)⟩) (xB_l ⟨_, zs_invV (T := TX12) em144_12 zl_140 rfl wd_1543 wd_1545 wd_55 ((congrFun xo_12 215).trans rfl) xm_133, ag_invV H zh_140 hd (by decide)⟩)))) (xB_n (xB_n (xB_l ⟨_, zs_goto em144_15 (t := 28) (by decide), as_goto⟩) (xB_n (xB_l ⟨_, zs_aload_n em144_18, as_aload⟩) (xB_l ⟨_, zs_dup em144_19, as_dup⟩))) (xB_n (xB_n (xB_l ⟨_, zs_getf (T := TX12) (M := 70) (ci := 12) (j := 25) em144_20 rfl inX12 (by decide) wd_1292 ((congrFun xo_12 203).trans rfl), as_getf zTie⟩) (xB_l ⟨_, zs_iconst (v := 1) em144_23 (by decide +kernel), as_const (by decide +kernel)⟩)) (xB_n (xB_l ⟨_, zs_iadd em144_24, as_bin fadd_ok⟩) (xB_l ⟨_, zs_puti zInj0 (T := TX12) (M := 70) (ty := tyX12) (ci := 12) (j := 25) (kd := 0) em144_25 rfl inX12 tyX12_ok nmX12 (by decide) wd_1292 (Or.inl ⟨rfl, rfl⟩) rfl ((congrFun xo_12 203).trans rfl), ag_puti0⟩)))))
set_option maxRecDepth 100000 in
set_option maxHeartbeats 4000000 in
theorem zM_151 : zOKa 151 zc_151 := z_auto (cuts := []) (rets := [(28, 3)]) (fuel := 1000) rfl rfl (by decide) (xrt_ok (xR_c (Or.inr (Or.inr (Or.inl ⟨rfl, em144_28, rfl⟩))) (xR_n))) (fun _ _ H _ hd => zTo_151 H hd) (by decide +kernel)
theorem em145_0 : decode prog_14_method_41_code 0 = .ok (.iload_n 0, 1) := by decide +kernel
theorem em145_1 : decode prog_14_method_41_code 1 = .ok (.iload_n 1, 1) := by decide +kernel
theorem em145_2 : decode prog_14_method_41_code 2 = .ok (.if_icmp .ge 7, 3) := by decide +kernel
theorem em145_5 : decode prog_14_method_41_code 5 = .ok (.iload_n 1, 1) := by decide +kernel
theorem em145_6 : decode prog_14_method_41_code 6 = .ok (.goto 13, 3) := by decide +kernel
theorem em145_9 : decode prog_14_method_41_code 9 = .ok (.iload_n 0, 1) := by decide +kernel
theorem em145_10 : decode prog_14_method_41_code 10 = .ok (.iload_n 2, 1) := by decide +kernel
theorem em145_11 : decode prog_14_method_41_code 11 = .ok (.if_icmp .le 7, 3) := by decide +kernel
theorem em145_14 : decode prog_14_method_41_code 14 = .ok (.iload_n 2, 1) := by decide +kernel
theorem em145_15 : decode prog_14_method_41_code 15 = .ok (.goto 4, 3) := by decide +kernel
theorem em145_18 : decode prog_14_method_41_code 18 = .ok (.iload_n 0, 1) := by decide +kernel
theorem em145_19 : decode prog_14_method_41_code 19 = .ok (.ireturn, 1) := by decide +kernel
/-! CapitalCaseModel.held:(III)I -/
noncomputable def zTr_152 : Nat → Option aF := bn 9 (bn 2 (bn 1 (bl 0 (a_iload 0 1)) (bl 1 (a_iload 1 2))) (bn 5 (bl 2 (a_icmp 3 9 5)) (bn 6 (bl 5 (a_iload 1 6)) (bl 6 (a_goto 19))))) (bn 14 (bn 10 (bl 9 (a_iload 0 10)) (bn 11 (bl 10 (a_iload 2 11)) (bl 11 (a_icmp 5 18 14)))) (bn 15 (bl 14 (a_iload 2 15)) (bn 18 (bl 15 (a_goto 19)) (bl 18 (a_iload 0 19)))))
set_option maxRecDepth 100000 in
set_option maxHeartbeats 4000000 in
theorem zTo_152 {pre : zPre} {post : zPost} (H : zTieC pre post) {d : Nat × Nat × Nat} (hd : zLe (0, 0, 0) d) : aTr zG0 zT0 zInv (false, false) PZ zbd pre post d prog_14_method_41_code "CapitalCaseModel" zTr_152 := (xB_n (xB_n (xB_n (xB_l ⟨_, zs_iload_n em145_0, as_iload⟩) (xB_l ⟨_, zs_iload_n em145_1, as_iload⟩)) (xB_n (xB_l ⟨_, zs_icmpge em145_2 (t := 9) (by decide), as_icmp⟩) (xB_n (xB_l ⟨_, zs_iload_n em145_5, as_iload⟩) (xB_l ⟨_, zs_goto em145_6 (t := 19) (by decide), as_goto⟩)))) (xB_n (xB_n (xB_l ⟨_, zs_iload_n em145_9, as_iload⟩) (xB_n (xB_l ⟨_, zs_iload_n em145_10, as_iload⟩) (xB_l ⟨_, zs_icmple em145_11 (t := 18) (by decide), as_icmp⟩))) (xB_n (xB_l ⟨_, zs_iload_n em145_14, as_iload⟩) (xB_n (xB_l ⟨_, zs_goto em145_15 (t := 19) (by decide), as_goto⟩) (xB_l ⟨_, zs_iload_n em145_18, as_iload⟩)))))
set_option maxRecDepth 100000 in
set_option maxHeartbeats 4000000 in
theorem zM_152 : zOKa 152 zc_152 := z_auto (cuts := []) (rets := [(19, 1)]) (fuel := 1000) rfl rfl (by decide) (xrt_ok (xR_c (Or.inl ⟨rfl, em145_19, rfl⟩) (xR_n))) (fun _ _ H _ hd => zTo_152 H hd) (by decide +kernel)
theorem em147_0 : decode prog_14_method_72_code 0 = .ok (.aload_n 0, 1) := by decide +kernel
theorem em147_1 : decode prog_14_method_72_code 1 = .ok (.iload_n 1, 1) := by decide +kernel
theorem em147_2 : decode prog_14_method_72_code 2 = .ok (.invokevirtual 405, 3) := by decide +kernel
theorem em147_5 : decode prog_14_method_72_code 5 = .ok (.ifCond .eq 10, 3) := by decide +kernel
theorem em147_8 : decode prog_14_method_72_code 8 = .ok (.iload_n 2, 1) := by decide +kernel
theorem em147_9 : decode prog_14_method_72_code 9 = .ok (.invokestatic 408, 3) := by decide +kernel
theorem em147_12 : decode prog_14_method_72_code 12 = .ok (.ifCond .ne 5, 3) := by decide +kernel
theorem em147_15 : decode prog_14_method_72_code 15 = .ok (.iconst (-1), 1) := by decide +kernel
theorem em147_16 : decode prog_14_method_72_code 16 = .ok (.ireturn, 1) := by decide +kernel
theorem em147_17 : decode prog_14_method_72_code 17 = .ok (.aload_n 0, 1) := by decide +kernel
theorem em147_18 : decode prog_14_method_72_code 18 = .ok (.invokevirtual 411, 3) := by decide +kernel
theorem em147_21 : decode prog_14_method_72_code 21 = .ok (.bipush 8, 2) := by decide +kernel
theorem em147_23 : decode prog_14_method_72_code 23 = .ok (.iload_n 1, 1) := by decide +kernel
theorem em147_24 : decode prog_14_method_72_code 24 = .ok (.imul, 1) := by decide +kernel
theorem em147_25 : decode prog_14_method_72_code 25 = .ok (.iload_n 2, 1) := by decide +kernel
theorem em147_26 : decode prog_14_method_72_code 26 = .ok (.iadd, 1) := by decide +kernel
theorem em147_27 : decode prog_14_method_72_code 27 = .ok (.istore 4, 2) := by decide +kernel
theorem em147_29 : decode prog_14_method_72_code 29 = .ok (.iload_n 3, 1) := by decide +kernel
theorem em147_30 : decode prog_14_method_72_code 30 = .ok (.tableswitch 100 0 6 #[42, 50, 61, 68, 79, 86, 93], 42) := by decide +kernel
theorem em147_72 : decode prog_14_method_72_code 72 = .ok (.aload_n 0, 1) := by decide +kernel
theorem em147_73 : decode prog_14_method_72_code 73 = .ok (.getfield 116, 3) := by decide +kernel
theorem em147_76 : decode prog_14_method_72_code 76 = .ok (.iload 4, 2) := by decide +kernel
theorem em147_78 : decode prog_14_method_72_code 78 = .ok (.iaload, 1) := by decide +kernel
theorem em147_79 : decode prog_14_method_72_code 79 = .ok (.ireturn, 1) := by decide +kernel
theorem em147_80 : decode prog_14_method_72_code 80 = .ok (.aload_n 0, 1) := by decide +kernel
theorem em147_81 : decode prog_14_method_72_code 81 = .ok (.getfield 116, 3) := by decide +kernel
theorem em147_84 : decode prog_14_method_72_code 84 = .ok (.bipush 40, 2) := by decide +kernel
theorem em147_86 : decode prog_14_method_72_code 86 = .ok (.iload 4, 2) := by decide +kernel
theorem em147_88 : decode prog_14_method_72_code 88 = .ok (.iadd, 1) := by decide +kernel
theorem em147_89 : decode prog_14_method_72_code 89 = .ok (.iaload, 1) := by decide +kernel
theorem em147_90 : decode prog_14_method_72_code 90 = .ok (.ireturn, 1) := by decide +kernel
theorem em147_91 : decode prog_14_method_72_code 91 = .ok (.aload_n 0, 1) := by decide +kernel
theorem em147_92 : decode prog_14_method_72_code 92 = .ok (.iload_n 1, 1) := by decide +kernel
theorem em147_93 : decode prog_14_method_72_code 93 = .ok (.iload_n 2, 1) := by decide +kernel
theorem em147_94 : decode prog_14_method_72_code 94 = .ok (.invokevirtual 368, 3) := by decide +kernel
theorem em147_97 : decode prog_14_method_72_code 97 = .ok (.ireturn, 1) := by decide +kernel
theorem em147_98 : decode prog_14_method_72_code 98 = .ok (.aload_n 0, 1) := by decide +kernel
theorem em147_99 : decode prog_14_method_72_code 99 = .ok (.getfield 116, 3) := by decide +kernel
theorem em147_102 : decode prog_14_method_72_code 102 = .ok (.bipush 80, 2) := by decide +kernel
theorem em147_104 : decode prog_14_method_72_code 104 = .ok (.iload 4, 2) := by decide +kernel
theorem em147_106 : decode prog_14_method_72_code 106 = .ok (.iadd, 1) := by decide +kernel
theorem em147_107 : decode prog_14_method_72_code 107 = .ok (.iaload, 1) := by decide +kernel
theorem em147_108 : decode prog_14_method_72_code 108 = .ok (.ireturn, 1) := by decide +kernel
theorem em147_109 : decode prog_14_method_72_code 109 = .ok (.aload_n 0, 1) := by decide +kernel
theorem em147_110 : decode prog_14_method_72_code 110 = .ok (.iload_n 1, 1) := by decide +kernel
theorem em147_111 : decode prog_14_method_72_code 111 = .ok (.iload_n 2, 1) := by decide +kernel
theorem em147_112 : decode prog_14_method_72_code 112 = .ok (.invokevirtual 347, 3) := by decide +kernel
theorem em147_115 : decode prog_14_method_72_code 115 = .ok (.ireturn, 1) := by decide +kernel
theorem em147_116 : decode prog_14_method_72_code 116 = .ok (.aload_n 0, 1) := by decide +kernel
theorem em147_117 : decode prog_14_method_72_code 117 = .ok (.iload_n 1, 1) := by decide +kernel
theorem em147_118 : decode prog_14_method_72_code 118 = .ok (.iload_n 2, 1) := by decide +kernel
theorem em147_119 : decode prog_14_method_72_code 119 = .ok (.invokevirtual 414, 3) := by decide +kernel
theorem em147_122 : decode prog_14_method_72_code 122 = .ok (.ireturn, 1) := by decide +kernel
theorem em147_123 : decode prog_14_method_72_code 123 = .ok (.aload_n 0, 1) := by decide +kernel
theorem em147_124 : decode prog_14_method_72_code 124 = .ok (.iload_n 1, 1) := by decide +kernel
theorem em147_125 : decode prog_14_method_72_code 125 = .ok (.iload_n 2, 1) := by decide +kernel
theorem em147_126 : decode prog_14_method_72_code 126 = .ok (.invokevirtual 389, 3) := by decide +kernel
theorem em147_129 : decode prog_14_method_72_code 129 = .ok (.ireturn, 1) := by decide +kernel
theorem em147_130 : decode prog_14_method_72_code 130 = .ok (.iconst (-1), 1) := by decide +kernel
theorem em147_131 : decode prog_14_method_72_code 131 = .ok (.ireturn, 1) := by decide +kernel
/-! CapitalCaseModel.house:(III)I -/
noncomputable def zTr_154 : Nat → Option aF := bn 86 (bn 24 (bn 12 (bn 5 (bn 1 (bl 0 (a_aload 0 1)) (bn 2 (bl 1 (a_iload 1 2)) (bl 2 (a_invV zG0 zprot (true, false) zc_177 (zbd 177) (7, 0, 0) 12 2 5)))) (bn 8 (bl 5 (a_if 0 15 8)) (bn 9 (bl 8 (a_iload 2 9)) (bl 9 (a_inv zG0 zprot (true, false) zc_180 (zbd 180) (7, 0, 0) 1 12))))) (bn 18 (bn 15 (bl 12 (a_if 1 17 15)) (bn 17 (bl 15 (a_const (-1) 16)) (bl 17 (a_aload 0 18)))) (bn 21 (bl 18 (a_invV zG0 zprot (true, false) zc_136 (zbd 136) (7, 0, 0) 12 1 21)) (bn 23 (bl 21 (a_const 8 23)) (bl 23 (a_iload 1 24)))))) (bn 72 (bn 27 (bn 25 (bl 24 (a_bin fmul 25)) (bn 26 (bl 25 (a_iload 2 26)) (bl 26 (a_bin fadd 27)))) (bn 29 (bl 27 (a_istore 4 29)) (bn 30 (bl 29 (a_iload 3 30)) (bl 30 (a_tsw 0 [72, 80, 91, 98, 109, 116, 123] 130))))) (bn 78 (bn 73 (bl 72 (a_aload 0 73)) (bn 76 (bl 73 (a_getf zG0 zT0 12 0 76)) (bl 76 (a_iload 4 78)))) (bn 81 (bn 80 (bl 78 (a_ald zG0 zT0 (true, false) ts0 79)) (bl 80 (a_aload 0 81))) (bn 84 (bl 81 (a_getf zG0 zT0 12 0 84)) (bl 84 (a_const 40 86))))))) (bn 109 (bn 94 (bn 91 (bn 88 (bl 86 (a_iload 4 88)) (bn 89 (bl 88 (a_bin fadd 89)) (bl 89 (a_ald zG0 zT0 (true, false) ts0 90)))) (bn 92 (bl 91 (a_aload 0 92)) (bn 93 (bl 92 (a_iload 1 93)) (bl 93 (a_iload 2 94))))) (bn 102 (bn 98 (bl 94 (a_invV zG0 zprot (true, false) zc_145 (zbd 145) (7, 0, 0) 12 3 97)) (bn 99 (bl 98 (a_aload 0 99)) (bl 99 (a_getf zG0 zT0 12 0 102)))) (bn 106 (bn 104 (bl 102 (a_const 80 104)) (bl 104 (a_iload 4 106))) (bn 107 (bl 106 (a_bin fadd 107)) (bl 107 (a_ald zG0 zT0 (true, false) ts0 108)))))) (bn 118 (bn 112 (bn 110 (bl 109 (a_aload 0 110)) (bn 111 (bl 110 (a_iload 1 111)) (bl 111 (a_iload 2 112)))) (bn 116 (bl 112 (a_invV zG0 zprot (true, false) zc_187 (zbd 187) (7, 0, 0) 12 3 115)) (bn 117 (bl 116 (a_aload 0 117)) (bl 117 (a_iload 1 118))))) (bn 124 (bn 119 (bl 118 (a_iload 2 119)) (bn 123 (bl 119 (a_invV zG0 zprot (true, false) zc_188 (zbd 188) (7, 0, 0) 12 3 122)) (bl 123 (a_aload 0 124)))) (bn 126 (bn 125 (bl 124 (a_iload 1 125)) (bl 125 (a_iload 2 126))) (bn 130 (bl 126 (a_invV zG0 zprot (true, false) zc_226 (zbd 226) (7, 0, 0) 12 3 129)) (bl 130 (a_const (-1) 131)))))))
set_option maxRecDepth 100000 in
set_option maxHeartbeats 4000000 in
theorem zTo_154 {pre : zPre} {post : zPost} (H : zTieC pre post) {d : Nat × Nat × Nat} (hd : zLe (7, 0, 0) d) : aTr zG0 zT0 zInv (true, false) PZ zbd pre post d prog_14_method_72_code "CapitalCaseModel" zTr_154 := (xB_n (xB_n (xB_n (xB_n (xB_n (xB_l ⟨_, zs_aload_n em147_0, as_aload⟩) (xB_n (xB_l ⟨_, zs_iload_n em147_1, as_iload⟩) (xB_l ⟨_, zs_invV (T := TX12) em147_2 zl_177 rfl wd_1625 wd_1627 wd_72 ((congrFun xo_12 405).trans rfl) xm_151, ag_invV H zh_177 hd (by decide)⟩))) (xB_n (xB_l ⟨_, zs_ifeq em147_5 (t := 15) (by decide), as_if⟩) (xB_n (xB_l ⟨_, zs_iload_n em147_8, as_iload⟩) (xB_l ⟨_, zs_invS em147_9 zl_180 wd_1632 wd_1633 ((congrFun xo_12 408).trans rfl) xm_154, ag_inv H zh_180 hd (by decide)⟩)))) (xB_n (xB_n (xB_l ⟨_, zs_ifne em147_12 (t := 17) (by decide), as_if⟩) (xB_n (xB_l ⟨_, zs_iconst (v := (-1)) em147_15 (by decide +kernel), as_const (by decide +kernel)⟩) (xB_l ⟨_, zs_aload_n em147_17, as_aload⟩))) (xB_n (xB_l ⟨_, zs_invV (T := TX12) em147_18 zl_136 rfl wd_1635 wd_1637 wd_73 ((congrFun xo_12 411).trans rfl) xm_129, ag_invV H zh_136 hd (by decide)⟩) (xB_n (xB_l ⟨_, zs_bipush (v := 8) em147_21 (by decide +kernel), as_const (by decide +kernel)⟩) (xB_l ⟨_, zs_iload_n em147_23, as_iload⟩))))) (xB_n (xB_n (xB_n (xB_l ⟨_, zs_imul em147_24, as_bin fmul_ok⟩) (xB_n (xB_l ⟨_, zs_iload_n em147_25, as_iload⟩) (xB_l ⟨_, zs_iadd em147_26, as_bin fadd_ok⟩))) (xB_n (xB_l ⟨_, zs_istore em147_27, as_istore⟩) (xB_n (xB_l ⟨_, zs_iload_n em147_29, as_iload⟩) (xB_l ⟨_, zs_tsw (ts := [72, 80, 91, 98, 109, 116, 123]) (df := 130) em147_30 (by decide +kernel) (by decide +kernel) (ztsw (by decide +kernel) (by decide +kernel)), as_tsw⟩)))) (xB_n (xB_n (xB_l ⟨_, zs_aload_n em147_72, as_aload⟩) (xB_n (xB_l ⟨_, zs_getf (T := TX12) (M := 70) (ci := 12) (j := 0) em147_73 rfl inX12 (by decide) wd_1332 ((congrFun xo_12 116).trans rfl), as_getf zTie⟩) (xB_l ⟨_, zs_iload em147_76, as_iload⟩))) (xB_n (xB_n (xB_l ⟨_, zs_iald em147_78, ag_iald⟩) (xB_l ⟨_, zs_aload_n em147_80, as_aload⟩)) (xB_n (xB_l ⟨_, zs_getf (T := TX12) (M := 70) (ci := 12) (j := 0) em147_81 rfl inX12 (by decide) wd_1332 ((congrFun xo_12 116).trans rfl), as_getf zTie⟩) (xB_l ⟨_, zs_bipush (v := 40) em147_84 (by decide +kernel), as_const (by decide +kernel)⟩)))))) (xB_n (xB_n (xB_n (xB_n (xB_l ⟨_, zs_iload em147_86, as_iload⟩) (xB_n (xB_l ⟨_, zs_iadd em147_88, as_bin fadd_ok⟩) (xB_l ⟨_, zs_iald em147_89, ag_iald⟩))) (xB_n (xB_l ⟨_, zs_aload_n em147_91, as_aload⟩) (xB_n (xB_l ⟨_, zs_iload_n em147_92, as_iload⟩) (xB_l ⟨_, zs_iload_n em147_93, as_iload⟩)))) (xB_n (xB_n (xB_l ⟨_, zs_invV (T := TX12) em147_94 zl_145 rfl wd_1639 wd_1641 wd_74 ((congrFun xo_12 368).trans rfl) xm_138, ag_invV H zh_145 hd (by decide)⟩) (xB_n (xB_l ⟨_, zs_aload_n em147_98, as_aload⟩) (xB_l ⟨_, zs_getf (T := TX12) (M := 70) (ci := 12) (j := 0) em147_99 rfl inX12 (by decide) wd_1332 ((congrFun xo_12 116).trans rfl), as_getf zTie⟩))) (xB_n (xB_n (xB_l ⟨_, zs_bipush (v := 80) em147_102 (by decide +kernel), as_const (by decide +kernel)⟩) (xB_l ⟨_, zs_iload em147_104, as_iload⟩)) (xB_n (xB_l ⟨_, zs_iadd em147_106, as_bin fadd_ok⟩) (xB_l ⟨_, zs_iald em147_107, ag_iald⟩))))) (xB_n (xB_n (xB_n (xB_l ⟨_, zs_aload_n em147_109, as_aload⟩) (xB_n (xB_l ⟨_, zs_iload_n em147_110, as_iload⟩) (xB_l ⟨_, zs_iload_n em147_111, as_iload⟩))) (xB_n (xB_l ⟨_, zs_invV (T := TX12) em147_112 zl_187 rfl wd_1643 wd_1645 wd_75 ((congrFun xo_12 347).trans rfl) xm_161, ag_invV H zh_187 hd (by decide)⟩) (xB_n (xB_l ⟨_, zs_aload_n em147_116, as_aload⟩) (xB_l ⟨_, zs_iload_n em147_117, as_iload⟩)))) (xB_n (xB_n (xB_l ⟨_, zs_iload_n em147_118, as_iload⟩) (xB_n (xB_l ⟨_, zs_invV (T := TX12) em147_119 zl_188 rfl wd_1647 wd_1649 wd_76 ((congrFun xo_12 414).trans rfl) xm_162, ag_invV H zh_188 hd (by decide)⟩) (xB_l ⟨_, zs_aload_n em147_123, as_aload⟩))) (xB_n (xB_n (xB_l ⟨_, zs_iload_n em147_124, as_iload⟩) (xB_l ⟨_, zs_iload_n em147_125, as_iload⟩)) (xB_n (xB_l ⟨_, zs_invV (T := TX12) em147_126 zl_226 rfl wd_1651 wd_1653 wd_77 ((congrFun xo_12 389).trans rfl) xm_199, ag_invV H zh_226 hd (by decide)⟩) (xB_l ⟨_, zs_iconst (v := (-1)) em147_130 (by decide +kernel), as_const (by decide +kernel)⟩)))))))
set_option maxRecDepth 100000 in
set_option maxHeartbeats 4000000 in
theorem zM_154 : zOKa 154 zc_154 := z_auto (cuts := []) (rets := [(16, 1), (79, 1), (90, 1), (97, 1), (108, 1), (115, 1), (122, 1), (129, 1), (131, 1)]) (fuel := 1000) rfl rfl (by decide) (xrt_ok (xR_c (Or.inl ⟨rfl, em147_16, rfl⟩) (xR_c (Or.inl ⟨rfl, em147_79, rfl⟩) (xR_c (Or.inl ⟨rfl, em147_90, rfl⟩) (xR_c (Or.inl ⟨rfl, em147_97, rfl⟩) (xR_c (Or.inl ⟨rfl, em147_108, rfl⟩) (xR_c (Or.inl ⟨rfl, em147_115, rfl⟩) (xR_c (Or.inl ⟨rfl, em147_122, rfl⟩) (xR_c (Or.inl ⟨rfl, em147_129, rfl⟩) (xR_c (Or.inl ⟨rfl, em147_131, rfl⟩) (xR_n))))))))))) (fun _ _ H _ hd => zTo_154 H hd) (by decide +kernel)
