theorem em108_0 : decode prog_1_method_28_code 0 = .ok (.iload_n 1, 1) := by decide +kernel
theorem em108_1 : decode prog_1_method_28_code 1 = .ok (.ifCond .lt 8, 3) := by decide +kernel
theorem em108_4 : decode prog_1_method_28_code 4 = .ok (.iload_n 1, 1) := by decide +kernel
theorem em108_5 : decode prog_1_method_28_code 5 = .ok (.iconst 1, 1) := by decide +kernel
theorem em108_6 : decode prog_1_method_28_code 6 = .ok (.if_icmp .le 5, 3) := by decide +kernel
theorem em108_9 : decode prog_1_method_28_code 9 = .ok (.iconst (-1), 1) := by decide +kernel
theorem em108_10 : decode prog_1_method_28_code 10 = .ok (.ireturn, 1) := by decide +kernel
theorem em108_11 : decode prog_1_method_28_code 11 = .ok (.aload_n 0, 1) := by decide +kernel
theorem em108_12 : decode prog_1_method_28_code 12 = .ok (.getfield 98, 3) := by decide +kernel
theorem em108_15 : decode prog_1_method_28_code 15 = .ok (.aload_n 0, 1) := by decide +kernel
theorem em108_16 : decode prog_1_method_28_code 16 = .ok (.getfield 39, 3) := by decide +kernel
theorem em108_19 : decode prog_1_method_28_code 19 = .ok (.invokevirtual 280, 3) := by decide +kernel
theorem em108_22 : decode prog_1_method_28_code 22 = .ok (.iload_n 1, 1) := by decide +kernel
theorem em108_23 : decode prog_1_method_28_code 23 = .ok (.ifCond .ne 13, 3) := by decide +kernel
theorem em108_26 : decode prog_1_method_28_code 26 = .ok (.aload_n 0, 1) := by decide +kernel
theorem em108_27 : decode prog_1_method_28_code 27 = .ok (.getfield 98, 3) := by decide +kernel
theorem em108_30 : decode prog_1_method_28_code 30 = .ok (.getfield 281, 3) := by decide +kernel
theorem em108_33 : decode prog_1_method_28_code 33 = .ok (.goto 10, 3) := by decide +kernel
theorem em108_36 : decode prog_1_method_28_code 36 = .ok (.aload_n 0, 1) := by decide +kernel
theorem em108_37 : decode prog_1_method_28_code 37 = .ok (.getfield 98, 3) := by decide +kernel
theorem em108_40 : decode prog_1_method_28_code 40 = .ok (.getfield 282, 3) := by decide +kernel
theorem em108_43 : decode prog_1_method_28_code 43 = .ok (.ireturn, 1) := by decide +kernel
/-! CapitalCase.twoDays:(I)I -/
noncomputable def zTr_115 : Nat → Option aF := bn 19 (bn 9 (bn 4 (bn 1 (bl 0 (a_iload 1 1)) (bl 1 (a_if 2 9 4))) (bn 5 (bl 4 (a_iload 1 5)) (bn 6 (bl 5 (a_const 1 6)) (bl 6 (a_icmp 5 11 9))))) (bn 12 (bn 11 (bl 9 (a_const (-1) 10)) (bl 11 (a_aload 0 12))) (bn 15 (bl 12 (a_getf zG0 zT0 11 14 15)) (bn 16 (bl 15 (a_aload 0 16)) (bl 16 (a_getf zG0 zT0 11 1 19)))))) (bn 30 (bn 23 (bn 22 (bl 19 (a_invV zG0 zprot (true, false) zc_71 (zbd 71) (23, 0, 0) 10 2 22)) (bl 22 (a_iload 1 23))) (bn 26 (bl 23 (a_if 1 36 26)) (bn 27 (bl 26 (a_aload 0 27)) (bl 27 (a_getf zG0 zT0 11 14 30))))) (bn 36 (bn 33 (bl 30 (a_getf zG0 zT0 10 6 33)) (bl 33 (a_goto 43))) (bn 37 (bl 36 (a_aload 0 37)) (bn 40 (bl 37 (a_getf zG0 zT0 11 14 40)) (bl 40 (a_getf zG0 zT0 10 7 43))))))
set_option maxRecDepth 100000 in
set_option maxHeartbeats 4000000 in
theorem zTo_115 {pre : zPre} {post : zPost} (H : zTieC pre post) {d : Nat × Nat × Nat} (hd : zLe (23, 0, 0) d) : aTr zG0 zT0 zInv (true, false) PZ zbd pre post d prog_1_method_28_code "CapitalCase" zTr_115 := (xB_n (xB_n (xB_n (xB_n (xB_l ⟨_, zs_iload_n em108_0, as_iload⟩) (xB_l ⟨_, zs_iflt em108_1 (t := 9) (by decide), as_if⟩)) (xB_n (xB_l ⟨_, zs_iload_n em108_4, as_iload⟩) (xB_n (xB_l ⟨_, zs_iconst (v := 1) em108_5 (by decide +kernel), as_const (by decide +kernel)⟩) (xB_l ⟨_, zs_icmple em108_6 (t := 11) (by decide), as_icmp⟩)))) (xB_n (xB_n (xB_l ⟨_, zs_iconst (v := (-1)) em108_9 (by decide +kernel), as_const (by decide +kernel)⟩) (xB_l ⟨_, zs_aload_n em108_11, as_aload⟩)) (xB_n (xB_l ⟨_, zs_getf (T := TX11) (M := 16) (ci := 11) (j := 14) em108_12 rfl inX11 (by decide) wd_567 ((congrFun xo_0 98).trans rfl), as_getf zTie⟩) (xB_n (xB_l ⟨_, zs_aload_n em108_15, as_aload⟩) (xB_l ⟨_, zs_getf (T := TX11) (M := 16) (ci := 11) (j := 1) em108_16 rfl inX11 (by decide) wd_558 ((congrFun xo_0 39).trans rfl), as_getf zTie⟩))))) (xB_n (xB_n (xB_n (xB_l ⟨_, zs_invV (T := TX10) em108_19 zl_71 rfl wd_1095 wd_1096 wd_1097 ((congrFun xo_0 280).trans rfl) xm_67, ag_invV H zh_71 hd (by decide)⟩) (xB_l ⟨_, zs_iload_n em108_22, as_iload⟩)) (xB_n (xB_l ⟨_, zs_ifne em108_23 (t := 36) (by decide), as_if⟩) (xB_n (xB_l ⟨_, zs_aload_n em108_26, as_aload⟩) (xB_l ⟨_, zs_getf (T := TX11) (M := 16) (ci := 11) (j := 14) em108_27 rfl inX11 (by decide) wd_567 ((congrFun xo_0 98).trans rfl), as_getf zTie⟩)))) (xB_n (xB_n (xB_l ⟨_, zs_getf (T := TX10) (M := 9) (ci := 10) (j := 6) em108_30 rfl inX10 (by decide) wd_512 ((congrFun xo_0 281).trans rfl), as_getf zTie⟩) (xB_l ⟨_, zs_goto em108_33 (t := 43) (by decide), as_goto⟩)) (xB_n (xB_l ⟨_, zs_aload_n em108_36, as_aload⟩) (xB_n (xB_l ⟨_, zs_getf (T := TX11) (M := 16) (ci := 11) (j := 14) em108_37 rfl inX11 (by decide) wd_567 ((congrFun xo_0 98).trans rfl), as_getf zTie⟩) (xB_l ⟨_, zs_getf (T := TX10) (M := 9) (ci := 10) (j := 7) em108_40 rfl inX10 (by decide) wd_514 ((congrFun xo_0 282).trans rfl), as_getf zTie⟩))))))
set_option maxRecDepth 100000 in
set_option maxHeartbeats 4000000 in
theorem zM_115 : zOKa 115 zc_115 := z_auto (cuts := []) (rets := [(10, 1), (43, 1)]) (fuel := 1000) rfl rfl (by decide) (xrt_ok (xR_c (Or.inl ⟨rfl, em108_10, rfl⟩) (xR_c (Or.inl ⟨rfl, em108_43, rfl⟩) (xR_n)))) (fun _ _ H _ hd => zTo_115 H hd) (by decide +kernel)
theorem em109_0 : decode prog_1_method_23_code 0 = .ok (.aload_n 0, 1) := by decide +kernel
theorem em109_1 : decode prog_1_method_23_code 1 = .ok (.getfield 49, 3) := by decide +kernel
theorem em109_4 : decode prog_1_method_23_code 4 = .ok (.aload_n 0, 1) := by decide +kernel
theorem em109_5 : decode prog_1_method_23_code 5 = .ok (.getfield 39, 3) := by decide +kernel
theorem em109_8 : decode prog_1_method_23_code 8 = .ok (.invokevirtual 256, 3) := by decide +kernel
theorem em109_11 : decode prog_1_method_23_code 11 = .ok (.ireturn, 1) := by decide +kernel
/-! CapitalCase.undo:()Z -/
noncomputable def zTr_116 : Nat → Option aF := bn 4 (bn 1 (bl 0 (a_aload 0 1)) (bl 1 (a_getf zG0 zT0 11 8 4))) (bn 5 (bl 4 (a_aload 0 5)) (bn 8 (bl 5 (a_getf zG0 zT0 11 1 8)) (bl 8 (a_invV zG0 zprot (false, false) zc_1 (zbd 1) (8, 0, 0) 0 2 11))))
set_option maxRecDepth 100000 in
set_option maxHeartbeats 4000000 in
theorem zTo_116 {pre : zPre} {post : zPost} (H : zTieC pre post) {d : Nat × Nat × Nat} (hd : zLe (8, 0, 0) d) : aTr zG0 zT0 zInv (false, false) PZ zbd pre post d prog_1_method_23_code "CapitalCase" zTr_116 := (xB_n (xB_n (xB_l ⟨_, zs_aload_n em109_0, as_aload⟩) (xB_l ⟨_, zs_getf (T := TX11) (M := 16) (ci := 11) (j := 8) em109_1 rfl inX11 (by decide) wd_560 ((congrFun xo_0 49).trans rfl), as_getf zTie⟩)) (xB_n (xB_l ⟨_, zs_aload_n em109_4, as_aload⟩) (xB_n (xB_l ⟨_, zs_getf (T := TX11) (M := 16) (ci := 11) (j := 1) em109_5 rfl inX11 (by decide) wd_558 ((congrFun xo_0 39).trans rfl), as_getf zTie⟩) (xB_l ⟨_, zs_invV (T := TX0) em109_8 zl_1 rfl wd_1047 wd_1048 wd_1049 ((congrFun xo_0 256).trans rfl) xm_1, ag_invV H zh_1 hd (by decide)⟩))))
set_option maxRecDepth 100000 in
set_option maxHeartbeats 4000000 in
theorem zM_116 : zOKa 116 zc_116 := z_auto (cuts := []) (rets := [(11, 2)]) (fuel := 1000) rfl rfl (by decide) (xrt_ok (xR_c (Or.inr (Or.inl ⟨rfl, em109_11, rfl⟩)) (xR_n))) (fun _ _ H _ hd => zTo_116 H hd) (by decide +kernel)
theorem em110_0 : decode prog_1_method_13_code 0 = .ok (.aload_n 0, 1) := by decide +kernel
theorem em110_1 : decode prog_1_method_13_code 1 = .ok (.iload_n 1, 1) := by decide +kernel
theorem em110_2 : decode prog_1_method_13_code 2 = .ok (.invokevirtual 175, 3) := by decide +kernel
theorem em110_5 : decode prog_1_method_13_code 5 = .ok (.ifCond .ne 5, 3) := by decide +kernel
theorem em110_8 : decode prog_1_method_13_code 8 = .ok (.iconst (-1), 1) := by decide +kernel
theorem em110_9 : decode prog_1_method_13_code 9 = .ok (.ireturn, 1) := by decide +kernel
theorem em110_10 : decode prog_1_method_13_code 10 = .ok (.iload_n 2, 1) := by decide +kernel
theorem em110_11 : decode prog_1_method_13_code 11 = .ok (.tableswitch 85 0 4 #[33, 43, 53, 63, 69], 33) := by decide +kernel
theorem em110_44 : decode prog_1_method_13_code 44 = .ok (.aload_n 0, 1) := by decide +kernel
theorem em110_45 : decode prog_1_method_13_code 45 = .ok (.getfield 23, 3) := by decide +kernel
theorem em110_48 : decode prog_1_method_13_code 48 = .ok (.getfield 178, 3) := by decide +kernel
theorem em110_51 : decode prog_1_method_13_code 51 = .ok (.iload_n 1, 1) := by decide +kernel
theorem em110_52 : decode prog_1_method_13_code 52 = .ok (.iaload, 1) := by decide +kernel
theorem em110_53 : decode prog_1_method_13_code 53 = .ok (.ireturn, 1) := by decide +kernel
theorem em110_54 : decode prog_1_method_13_code 54 = .ok (.aload_n 0, 1) := by decide +kernel
theorem em110_55 : decode prog_1_method_13_code 55 = .ok (.getfield 23, 3) := by decide +kernel
theorem em110_58 : decode prog_1_method_13_code 58 = .ok (.getfield 181, 3) := by decide +kernel
theorem em110_61 : decode prog_1_method_13_code 61 = .ok (.iload_n 1, 1) := by decide +kernel
theorem em110_62 : decode prog_1_method_13_code 62 = .ok (.iaload, 1) := by decide +kernel
theorem em110_63 : decode prog_1_method_13_code 63 = .ok (.ireturn, 1) := by decide +kernel
theorem em110_64 : decode prog_1_method_13_code 64 = .ok (.aload_n 0, 1) := by decide +kernel
theorem em110_65 : decode prog_1_method_13_code 65 = .ok (.getfield 23, 3) := by decide +kernel
theorem em110_68 : decode prog_1_method_13_code 68 = .ok (.getfield 184, 3) := by decide +kernel
theorem em110_71 : decode prog_1_method_13_code 71 = .ok (.iload_n 1, 1) := by decide +kernel
theorem em110_72 : decode prog_1_method_13_code 72 = .ok (.iaload, 1) := by decide +kernel
theorem em110_73 : decode prog_1_method_13_code 73 = .ok (.ireturn, 1) := by decide +kernel
theorem em110_74 : decode prog_1_method_13_code 74 = .ok (.aload_n 0, 1) := by decide +kernel
theorem em110_75 : decode prog_1_method_13_code 75 = .ok (.iload_n 1, 1) := by decide +kernel
theorem em110_76 : decode prog_1_method_13_code 76 = .ok (.invokevirtual 187, 3) := by decide +kernel
theorem em110_79 : decode prog_1_method_13_code 79 = .ok (.ireturn, 1) := by decide +kernel
theorem em110_80 : decode prog_1_method_13_code 80 = .ok (.aload_n 0, 1) := by decide +kernel
theorem em110_81 : decode prog_1_method_13_code 81 = .ok (.getfield 73, 3) := by decide +kernel
theorem em110_84 : decode prog_1_method_13_code 84 = .ok (.iload_n 1, 1) := by decide +kernel
theorem em110_85 : decode prog_1_method_13_code 85 = .ok (.aload_n 0, 1) := by decide +kernel
theorem em110_86 : decode prog_1_method_13_code 86 = .ok (.getfield 39, 3) := by decide +kernel
theorem em110_89 : decode prog_1_method_13_code 89 = .ok (.getfield 190, 3) := by decide +kernel
theorem em110_92 : decode prog_1_method_13_code 92 = .ok (.invokevirtual 193, 3) := by decide +kernel
theorem em110_95 : decode prog_1_method_13_code 95 = .ok (.ireturn, 1) := by decide +kernel
theorem em110_96 : decode prog_1_method_13_code 96 = .ok (.iconst (-1), 1) := by decide +kernel
theorem em110_97 : decode prog_1_method_13_code 97 = .ok (.ireturn, 1) := by decide +kernel
/-! CapitalCase.verse:(II)I -/
noncomputable def zTr_117 : Nat → Option aF := bn 62 (bn 45 (bn 8 (bn 2 (bn 1 (bl 0 (a_aload 0 1)) (bl 1 (a_iload 1 2))) (bn 5 (bl 2 (a_invV zG0 zprot (true, false) zc_96 (zbd 96) (7, 0, 0) 11 2 5)) (bl 5 (a_if 1 10 8)))) (bn 11 (bn 10 (bl 8 (a_const (-1) 9)) (bl 10 (a_iload 2 11))) (bn 44 (bl 11 (a_tsw 0 [44, 54, 64, 74, 80] 96)) (bl 44 (a_aload 0 45))))) (bn 54 (bn 51 (bn 48 (bl 45 (a_getf zG0 zT0 11 0 48)) (bl 48 (a_getf zG0 zT0 6 6 51))) (bn 52 (bl 51 (a_iload 1 52)) (bl 52 (a_ald zG0 zT0 (true, false) ts0 53)))) (bn 58 (bn 55 (bl 54 (a_aload 0 55)) (bl 55 (a_getf zG0 zT0 11 0 58))) (bn 61 (bl 58 (a_getf zG0 zT0 6 7 61)) (bl 61 (a_iload 1 62)))))) (bn 76 (bn 71 (bn 65 (bn 64 (bl 62 (a_ald zG0 zT0 (true, false) ts0 63)) (bl 64 (a_aload 0 65))) (bn 68 (bl 65 (a_getf zG0 zT0 11 0 68)) (bl 68 (a_getf zG0 zT0 6 8 71)))) (bn 74 (bn 72 (bl 71 (a_iload 1 72)) (bl 72 (a_ald zG0 zT0 (true, false) ts0 73))) (bn 75 (bl 74 (a_aload 0 75)) (bl 75 (a_iload 1 76))))) (bn 85 (bn 81 (bn 80 (bl 76 (a_invV zG0 zprot (true, false) zc_107 (zbd 107) (7, 0, 0) 11 2 79)) (bl 80 (a_aload 0 81))) (bn 84 (bl 81 (a_getf zG0 zT0 11 5 84)) (bl 84 (a_iload 1 85)))) (bn 89 (bn 86 (bl 85 (a_aload 0 86)) (bl 86 (a_getf zG0 zT0 11 1 89))) (bn 92 (bl 89 (a_getf zG0 zT0 8 7 92)) (bn 96 (bl 92 (a_invV zG0 zprot (true, false) zc_6 (zbd 6) (7, 0, 0) 1 3 95)) (bl 96 (a_const (-1) 97)))))))
set_option maxRecDepth 100000 in
set_option maxHeartbeats 4000000 in
theorem zTo_117 {pre : zPre} {post : zPost} (H : zTieC pre post) {d : Nat × Nat × Nat} (hd : zLe (7, 0, 0) d) : aTr zG0 zT0 zInv (true, false) PZ zbd pre post d prog_1_method_13_code "CapitalCase" zTr_117 := (xB_n (xB_n (xB_n (xB_n (xB_n (xB_l ⟨_, zs_aload_n em110_0, as_aload⟩) (xB_l ⟨_, zs_iload_n em110_1, as_iload⟩)) (xB_n (xB_l ⟨_, zs_invV (T := TX11) em110_2 zl_96 rfl wd_894 wd_896 wd_23 ((congrFun xo_0 175).trans rfl) xm_91, ag_invV H zh_96 hd (by decide)⟩) (xB_l ⟨_, zs_ifne em110_5 (t := 10) (by decide), as_if⟩))) (xB_n (xB_n (xB_l ⟨_, zs_iconst (v := (-1)) em110_8 (by decide +kernel), as_const (by decide +kernel)⟩) (xB_l ⟨_, zs_iload_n em110_10, as_iload⟩)) (xB_n (xB_l ⟨_, zs_tsw (ts := [44, 54, 64, 74, 80]) (df := 96) em110_11 (by decide +kernel) (by decide +kernel) (ztsw (by decide +kernel) (by decide +kernel)), as_tsw⟩) (xB_l ⟨_, zs_aload_n em110_44, as_aload⟩)))) (xB_n (xB_n (xB_n (xB_l ⟨_, zs_getf (T := TX11) (M := 16) (ci := 11) (j := 0) em110_45 rfl inX11 (by decide) wd_556 ((congrFun xo_0 23).trans rfl), as_getf zTie⟩) (xB_l ⟨_, zs_getf (T := TX6) (M := 15) (ci := 6) (j := 6) em110_48 rfl inX6 (by decide) wd_190 ((congrFun xo_0 178).trans rfl), as_getf zTie⟩)) (xB_n (xB_l ⟨_, zs_iload_n em110_51, as_iload⟩) (xB_l ⟨_, zs_iald em110_52, ag_iald⟩))) (xB_n (xB_n (xB_l ⟨_, zs_aload_n em110_54, as_aload⟩) (xB_l ⟨_, zs_getf (T := TX11) (M := 16) (ci := 11) (j := 0) em110_55 rfl inX11 (by decide) wd_556 ((congrFun xo_0 23).trans rfl), as_getf zTie⟩)) (xB_n (xB_l ⟨_, zs_getf (T := TX6) (M := 15) (ci := 6) (j := 7) em110_58 rfl inX6 (by decide) wd_194 ((congrFun xo_0 181).trans rfl), as_getf zTie⟩) (xB_l ⟨_, zs_iload_n em110_61, as_iload⟩))))) (xB_n (xB_n (xB_n (xB_n (xB_l ⟨_, zs_iald em110_62, ag_iald⟩) (xB_l ⟨_, zs_aload_n em110_64, as_aload⟩)) (xB_n (xB_l ⟨_, zs_getf (T := TX11) (M := 16) (ci := 11) (j := 0) em110_65 rfl inX11 (by decide) wd_556 ((congrFun xo_0 23).trans rfl), as_getf zTie⟩) (xB_l ⟨_, zs_getf (T := TX6) (M := 15) (ci := 6) (j := 8) em110_68 rfl inX6 (by decide) wd_201 ((congrFun xo_0 184).trans rfl), as_getf zTie⟩))) (xB_n (xB_n (xB_l ⟨_, zs_iload_n em110_71, as_iload⟩) (xB_l ⟨_, zs_iald em110_72, ag_iald⟩)) (xB_n (xB_l ⟨_, zs_aload_n em110_74, as_aload⟩) (xB_l ⟨_, zs_iload_n em110_75, as_iload⟩)))) (xB_n (xB_n (xB_n (xB_l ⟨_, zs_invV (T := TX11) em110_76 zl_107 rfl wd_898 wd_900 wd_24 ((congrFun xo_0 187).trans rfl) xm_102, ag_invV H zh_107 hd (by decide)⟩) (xB_l ⟨_, zs_aload_n em110_80, as_aload⟩)) (xB_n (xB_l ⟨_, zs_getf (T := TX11) (M := 16) (ci := 11) (j := 5) em110_81 rfl inX11 (by decide) wd_564 ((congrFun xo_0 73).trans rfl), as_getf zTie⟩) (xB_l ⟨_, zs_iload_n em110_84, as_iload⟩))) (xB_n (xB_n (xB_l ⟨_, zs_aload_n em110_85, as_aload⟩) (xB_l ⟨_, zs_getf (T := TX11) (M := 16) (ci := 11) (j := 1) em110_86 rfl inX11 (by decide) wd_558 ((congrFun xo_0 39).trans rfl), as_getf zTie⟩)) (xB_n (xB_l ⟨_, zs_getf (T := TX8) (M := 10) (ci := 8) (j := 7) em110_89 rfl inX8 (by decide) wd_349 ((congrFun xo_0 190).trans rfl), as_getf zTie⟩) (xB_n (xB_l ⟨_, zs_invV (T := TX1) em110_92 zl_6 rfl wd_902 wd_903 wd_904 ((congrFun xo_0 193).trans rfl) xm_6, ag_invV H zh_6 hd (by decide)⟩) (xB_l ⟨_, zs_iconst (v := (-1)) em110_96 (by decide +kernel), as_const (by decide +kernel)⟩)))))))
set_option maxRecDepth 100000 in
set_option maxHeartbeats 4000000 in
theorem zM_117 : zOKa 117 zc_117 := z_auto (cuts := []) (rets := [(9, 1), (53, 1), (63, 1), (73, 1), (79, 1), (95, 1), (97, 1)]) (fuel := 1000) rfl rfl (by decide) (xrt_ok (xR_c (Or.inl ⟨rfl, em110_9, rfl⟩) (xR_c (Or.inl ⟨rfl, em110_53, rfl⟩) (xR_c (Or.inl ⟨rfl, em110_63, rfl⟩) (xR_c (Or.inl ⟨rfl, em110_73, rfl⟩) (xR_c (Or.inl ⟨rfl, em110_79, rfl⟩) (xR_c (Or.inl ⟨rfl, em110_95, rfl⟩) (xR_c (Or.inl ⟨rfl, em110_97, rfl⟩) (xR_n))))))))) (fun _ _ H _ hd => zTo_117 H hd) (by decide +kernel)
theorem em111_0 : decode prog_1_method_15_code 0 = .ok (.aload_n 0, 1) := by decide +kernel
theorem em111_1 : decode prog_1_method_15_code 1 = .ok (.iload_n 1, 1) := by decide +kernel
theorem em111_2 : decode prog_1_method_15_code 2 = .ok (.invokevirtual 175, 3) := by decide +kernel
theorem em111_5 : decode prog_1_method_15_code 5 = .ok (.ifCond .eq 20, 3) := by decide +kernel
theorem em111_8 : decode prog_1_method_15_code 8 = .ok (.iload_n 2, 1) := by decide +kernel
theorem em111_9 : decode prog_1_method_15_code 9 = .ok (.ifCond .lt 16, 3) := by decide +kernel
theorem em111_12 : decode prog_1_method_15_code 12 = .ok (.iload_n 2, 1) := by decide +kernel
theorem em111_13 : decode prog_1_method_15_code 13 = .ok (.aload_n 0, 1) := by decide +kernel
theorem em111_14 : decode prog_1_method_15_code 14 = .ok (.getfield 23, 3) := by decide +kernel
theorem em111_17 : decode prog_1_method_15_code 17 = .ok (.getfield 184, 3) := by decide +kernel
theorem em111_20 : decode prog_1_method_15_code 20 = .ok (.iload_n 1, 1) := by decide +kernel
theorem em111_21 : decode prog_1_method_15_code 21 = .ok (.iaload, 1) := by decide +kernel
theorem em111_22 : decode prog_1_method_15_code 22 = .ok (.if_icmp .lt 5, 3) := by decide +kernel
theorem em111_25 : decode prog_1_method_15_code 25 = .ok (.iconst (-1), 1) := by decide +kernel
theorem em111_26 : decode prog_1_method_15_code 26 = .ok (.ireturn, 1) := by decide +kernel
theorem em111_27 : decode prog_1_method_15_code 27 = .ok (.aload_n 0, 1) := by decide +kernel
theorem em111_28 : decode prog_1_method_15_code 28 = .ok (.getfield 23, 3) := by decide +kernel
theorem em111_31 : decode prog_1_method_15_code 31 = .ok (.getfield 202, 3) := by decide +kernel
theorem em111_34 : decode prog_1_method_15_code 34 = .ok (.iload_n 1, 1) := by decide +kernel
theorem em111_35 : decode prog_1_method_15_code 35 = .ok (.bipush 8, 2) := by decide +kernel
theorem em111_37 : decode prog_1_method_15_code 37 = .ok (.imul, 1) := by decide +kernel
theorem em111_38 : decode prog_1_method_15_code 38 = .ok (.iload_n 2, 1) := by decide +kernel
theorem em111_39 : decode prog_1_method_15_code 39 = .ok (.iadd, 1) := by decide +kernel
theorem em111_40 : decode prog_1_method_15_code 40 = .ok (.iaload, 1) := by decide +kernel
theorem em111_41 : decode prog_1_method_15_code 41 = .ok (.ireturn, 1) := by decide +kernel
/-! CapitalCase.wants:(II)I -/
noncomputable def zTr_118 : Nat → Option aF := bn 21 (bn 9 (bn 2 (bn 1 (bl 0 (a_aload 0 1)) (bl 1 (a_iload 1 2))) (bn 5 (bl 2 (a_invV zG0 zprot (true, false) zc_96 (zbd 96) (1, 0, 0) 11 2 5)) (bn 8 (bl 5 (a_if 0 25 8)) (bl 8 (a_iload 2 9))))) (bn 14 (bn 12 (bl 9 (a_if 2 25 12)) (bn 13 (bl 12 (a_iload 2 13)) (bl 13 (a_aload 0 14)))) (bn 17 (bl 14 (a_getf zG0 zT0 11 0 17)) (bn 20 (bl 17 (a_getf zG0 zT0 6 8 20)) (bl 20 (a_iload 1 21)))))) (bn 34 (bn 27 (bn 22 (bl 21 (a_ald zG0 zT0 (true, false) ts0 22)) (bn 25 (bl 22 (a_icmp 2 27 25)) (bl 25 (a_const (-1) 26)))) (bn 28 (bl 27 (a_aload 0 28)) (bn 31 (bl 28 (a_getf zG0 zT0 11 0 31)) (bl 31 (a_getf zG0 zT0 6 9 34))))) (bn 38 (bn 35 (bl 34 (a_iload 1 35)) (bn 37 (bl 35 (a_const 8 37)) (bl 37 (a_bin fmul 38)))) (bn 39 (bl 38 (a_iload 2 39)) (bn 40 (bl 39 (a_bin fadd 40)) (bl 40 (a_ald zG0 zT0 (true, false) ts0 41))))))
set_option maxRecDepth 100000 in
set_option maxHeartbeats 4000000 in
theorem zTo_118 {pre : zPre} {post : zPost} (H : zTieC pre post) {d : Nat × Nat × Nat} (hd : zLe (1, 0, 0) d) : aTr zG0 zT0 zInv (true, false) PZ zbd pre post d prog_1_method_15_code "CapitalCase" zTr_118 := (xB_n (xB_n (xB_n (xB_n (xB_l ⟨_, zs_aload_n em111_0, as_aload⟩) (xB_l ⟨_, zs_iload_n em111_1, as_iload⟩)) (xB_n (xB_l ⟨_, zs_invV (T := TX11) em111_2 zl_96 rfl wd_894 wd_896 wd_23 ((congrFun xo_0 175).trans rfl) xm_91, ag_invV H zh_96 hd (by decide)⟩) (xB_n (xB_l ⟨_, zs_ifeq em111_5 (t := 25) (by decide), as_if⟩) (xB_l ⟨_, zs_iload_n em111_8, as_iload⟩)))) (xB_n (xB_n (xB_l ⟨_, zs_iflt em111_9 (t := 25) (by decide), as_if⟩) (xB_n (xB_l ⟨_, zs_iload_n em111_12, as_iload⟩) (xB_l ⟨_, zs_aload_n em111_13, as_aload⟩))) (xB_n (xB_l ⟨_, zs_getf (T := TX11) (M := 16) (ci := 11) (j := 0) em111_14 rfl inX11 (by decide) wd_556 ((congrFun xo_0 23).trans rfl), as_getf zTie⟩) (xB_n (xB_l ⟨_, zs_getf (T := TX6) (M := 15) (ci := 6) (j := 8) em111_17 rfl inX6 (by decide) wd_201 ((congrFun xo_0 184).trans rfl), as_getf zTie⟩) (xB_l ⟨_, zs_iload_n em111_20, as_iload⟩))))) (xB_n (xB_n (xB_n (xB_l ⟨_, zs_iald em111_21, ag_iald⟩) (xB_n (xB_l ⟨_, zs_icmplt em111_22 (t := 27) (by decide), as_icmp⟩) (xB_l ⟨_, zs_iconst (v := (-1)) em111_25 (by decide +kernel), as_const (by decide +kernel)⟩))) (xB_n (xB_l ⟨_, zs_aload_n em111_27, as_aload⟩) (xB_n (xB_l ⟨_, zs_getf (T := TX11) (M := 16) (ci := 11) (j := 0) em111_28 rfl inX11 (by decide) wd_556 ((congrFun xo_0 23).trans rfl), as_getf zTie⟩) (xB_l ⟨_, zs_getf (T := TX6) (M := 15) (ci := 6) (j := 9) em111_31 rfl inX6 (by decide) wd_206 ((congrFun xo_0 202).trans rfl), as_getf zTie⟩)))) (xB_n (xB_n (xB_l ⟨_, zs_iload_n em111_34, as_iload⟩) (xB_n (xB_l ⟨_, zs_bipush (v := 8) em111_35 (by decide +kernel), as_const (by decide +kernel)⟩) (xB_l ⟨_, zs_imul em111_37, as_bin fmul_ok⟩))) (xB_n (xB_l ⟨_, zs_iload_n em111_38, as_iload⟩) (xB_n (xB_l ⟨_, zs_iadd em111_39, as_bin fadd_ok⟩) (xB_l ⟨_, zs_iald em111_40, ag_iald⟩))))))
set_option maxRecDepth 100000 in
set_option maxHeartbeats 4000000 in
theorem zM_118 : zOKa 118 zc_118 := z_auto (cuts := []) (rets := [(26, 1), (41, 1)]) (fuel := 1000) rfl rfl (by decide) (xrt_ok (xR_c (Or.inl ⟨rfl, em111_26, rfl⟩) (xR_c (Or.inl ⟨rfl, em111_41, rfl⟩) (xR_n)))) (fun _ _ H _ hd => zTo_118 H hd) (by decide +kernel)
theorem em112_0 : decode prog_1_method_40_code 0 = .ok (.iload_n 1, 1) := by decide +kernel
theorem em112_1 : decode prog_1_method_40_code 1 = .ok (.ifCond .lt 23, 3) := by decide +kernel
theorem em112_4 : decode prog_1_method_40_code 4 = .ok (.iload_n 1, 1) := by decide +kernel
theorem em112_5 : decode prog_1_method_40_code 5 = .ok (.aload_n 0, 1) := by decide +kernel
theorem em112_6 : decode prog_1_method_40_code 6 = .ok (.getfield 64, 3) := by decide +kernel
theorem em112_9 : decode prog_1_method_40_code 9 = .ok (.getfield 133, 3) := by decide +kernel
theorem em112_12 : decode prog_1_method_40_code 12 = .ok (.if_icmp .gt 12, 3) := by decide +kernel
theorem em112_15 : decode prog_1_method_40_code 15 = .ok (.iload_n 2, 1) := by decide +kernel
theorem em112_16 : decode prog_1_method_40_code 16 = .ok (.ifCond .lt 8, 3) := by decide +kernel
theorem em112_19 : decode prog_1_method_40_code 19 = .ok (.iload_n 2, 1) := by decide +kernel
theorem em112_20 : decode prog_1_method_40_code 20 = .ok (.iconst 1, 1) := by decide +kernel
theorem em112_21 : decode prog_1_method_40_code 21 = .ok (.if_icmp .le 5, 3) := by decide +kernel
theorem em112_24 : decode prog_1_method_40_code 24 = .ok (.iconst (-1), 1) := by decide +kernel
theorem em112_25 : decode prog_1_method_40_code 25 = .ok (.ireturn, 1) := by decide +kernel
theorem em112_26 : decode prog_1_method_40_code 26 = .ok (.aload_n 0, 1) := by decide +kernel
theorem em112_27 : decode prog_1_method_40_code 27 = .ok (.getfield 64, 3) := by decide +kernel
theorem em112_30 : decode prog_1_method_40_code 30 = .ok (.aload_n 0, 1) := by decide +kernel
theorem em112_31 : decode prog_1_method_40_code 31 = .ok (.getfield 39, 3) := by decide +kernel
theorem em112_34 : decode prog_1_method_40_code 34 = .ok (.aload_n 0, 1) := by decide +kernel
theorem em112_35 : decode prog_1_method_40_code 35 = .ok (.getfield 23, 3) := by decide +kernel
theorem em112_38 : decode prog_1_method_40_code 38 = .ok (.getfield 134, 3) := by decide +kernel
theorem em112_41 : decode prog_1_method_40_code 41 = .ok (.iload_n 1, 1) := by decide +kernel
theorem em112_42 : decode prog_1_method_40_code 42 = .ok (.invokevirtual 311, 3) := by decide +kernel
theorem em112_45 : decode prog_1_method_40_code 45 = .ok (.istore_n 3, 1) := by decide +kernel
theorem em112_46 : decode prog_1_method_40_code 46 = .ok (.iload_n 2, 1) := by decide +kernel
theorem em112_47 : decode prog_1_method_40_code 47 = .ok (.ifCond .ne 10, 3) := by decide +kernel
theorem em112_50 : decode prog_1_method_40_code 50 = .ok (.iload_n 3, 1) := by decide +kernel
theorem em112_51 : decode prog_1_method_40_code 51 = .ok (.invokestatic 314, 3) := by decide +kernel
theorem em112_54 : decode prog_1_method_40_code 54 = .ok (.goto 4, 3) := by decide +kernel
theorem em112_57 : decode prog_1_method_40_code 57 = .ok (.iload_n 3, 1) := by decide +kernel
theorem em112_58 : decode prog_1_method_40_code 58 = .ok (.ireturn, 1) := by decide +kernel
/-! CapitalCase.whose:(II)I -/
noncomputable def zTr_119 : Nat → Option aF := bn 27 (bn 15 (bn 5 (bn 1 (bl 0 (a_iload 1 1)) (bn 4 (bl 1 (a_if 2 24 4)) (bl 4 (a_iload 1 5)))) (bn 9 (bn 6 (bl 5 (a_aload 0 6)) (bl 6 (a_getf zG0 zT0 11 13 9))) (bn 12 (bl 9 (a_getf zG0 zT0 5 3 12)) (bl 12 (a_icmp 4 24 15))))) (bn 20 (bn 16 (bl 15 (a_iload 2 16)) (bn 19 (bl 16 (a_if 2 24 19)) (bl 19 (a_iload 2 20)))) (bn 24 (bn 21 (bl 20 (a_const 1 21)) (bl 21 (a_icmp 5 26 24))) (bn 26 (bl 24 (a_const (-1) 25)) (bl 26 (a_aload 0 27)))))) (bn 42 (bn 34 (bn 30 (bl 27 (a_getf zG0 zT0 11 13 30)) (bn 31 (bl 30 (a_aload 0 31)) (bl 31 (a_getf zG0 zT0 11 1 34)))) (bn 38 (bn 35 (bl 34 (a_aload 0 35)) (bl 35 (a_getf zG0 zT0 11 0 38))) (bn 41 (bl 38 (a_getf zG0 zT0 6 0 41)) (bl 41 (a_iload 1 42))))) (bn 50 (bn 46 (bn 45 (bl 42 (a_invV zG0 zprot (false, false) zc_41 (zbd 41) (1, 0, 0) 5 4 45)) (bl 45 (a_istore 3 46))) (bn 47 (bl 46 (a_iload 2 47)) (bl 47 (a_if 1 57 50)))) (bn 54 (bn 51 (bl 50 (a_iload 3 51)) (bl 51 (a_inv zG0 zprot (false, false) zc_233 (zbd 233) (1, 0, 0) 1 54))) (bn 57 (bl 54 (a_goto 58)) (bl 57 (a_iload 3 58))))))
set_option maxRecDepth 100000 in
set_option maxHeartbeats 4000000 in
theorem zTo_119 {pre : zPre} {post : zPost} (H : zTieC pre post) {d : Nat × Nat × Nat} (hd : zLe (1, 0, 0) d) : aTr zG0 zT0 zInv (false, false) PZ zbd pre post d prog_1_method_40_code "CapitalCase" zTr_119 := (xB_n (xB_n (xB_n (xB_n (xB_l ⟨_, zs_iload_n em112_0, as_iload⟩) (xB_n (xB_l ⟨_, zs_iflt em112_1 (t := 24) (by decide), as_if⟩) (xB_l ⟨_, zs_iload_n em112_4, as_iload⟩))) (xB_n (xB_n (xB_l ⟨_, zs_aload_n em112_5, as_aload⟩) (xB_l ⟨_, zs_getf (T := TX11) (M := 16) (ci := 11) (j := 13) em112_6 rfl inX11 (by decide) wd_563 ((congrFun xo_0 64).trans rfl), as_getf zTie⟩)) (xB_n (xB_l ⟨_, zs_getf (T := TX5) (M := 4) (ci := 5) (j := 3) em112_9 rfl inX5 (by decide) wd_405 ((congrFun xo_0 133).trans rfl), as_getf zTie⟩) (xB_l ⟨_, zs_icmpgt em112_12 (t := 24) (by decide), as_icmp⟩)))) (xB_n (xB_n (xB_l ⟨_, zs_iload_n em112_15, as_iload⟩) (xB_n (xB_l ⟨_, zs_iflt em112_16 (t := 24) (by decide), as_if⟩) (xB_l ⟨_, zs_iload_n em112_19, as_iload⟩))) (xB_n (xB_n (xB_l ⟨_, zs_iconst (v := 1) em112_20 (by decide +kernel), as_const (by decide +kernel)⟩) (xB_l ⟨_, zs_icmple em112_21 (t := 26) (by decide), as_icmp⟩)) (xB_n (xB_l ⟨_, zs_iconst (v := (-1)) em112_24 (by decide +kernel), as_const (by decide +kernel)⟩) (xB_l ⟨_, zs_aload_n em112_26, as_aload⟩))))) (xB_n (xB_n (xB_n (xB_l ⟨_, zs_getf (T := TX11) (M := 16) (ci := 11) (j := 13) em112_27 rfl inX11 (by decide) wd_563 ((congrFun xo_0 64).trans rfl), as_getf zTie⟩) (xB_n (xB_l ⟨_, zs_aload_n em112_30, as_aload⟩) (xB_l ⟨_, zs_getf (T := TX11) (M := 16) (ci := 11) (j := 1) em112_31 rfl inX11 (by decide) wd_558 ((congrFun xo_0 39).trans rfl), as_getf zTie⟩))) (xB_n (xB_n (xB_l ⟨_, zs_aload_n em112_34, as_aload⟩) (xB_l ⟨_, zs_getf (T := TX11) (M := 16) (ci := 11) (j := 0) em112_35 rfl inX11 (by decide) wd_556 ((congrFun xo_0 23).trans rfl), as_getf zTie⟩)) (xB_n (xB_l ⟨_, zs_getf (T := TX6) (M := 15) (ci := 6) (j := 0) em112_38 rfl inX6 (by decide) wd_167 ((congrFun xo_0 134).trans rfl), as_getf zTie⟩) (xB_l ⟨_, zs_iload_n em112_41, as_iload⟩)))) (xB_n (xB_n (xB_n (xB_l ⟨_, zs_invV (T := TX5) em112_42 zl_41 rfl wd_1213 wd_1214 wd_1215 ((congrFun xo_0 311).trans rfl) xm_40, ag_invV H zh_41 hd (by decide)⟩) (xB_l ⟨_, zs_istore_n em112_45, as_istore⟩)) (xB_n (xB_l ⟨_, zs_iload_n em112_46, as_iload⟩) (xB_l ⟨_, zs_ifne em112_47 (t := 57) (by decide), as_if⟩))) (xB_n (xB_n (xB_l ⟨_, zs_iload_n em112_50, as_iload⟩) (xB_l ⟨_, zs_invS em112_51 zl_233 wd_1217 wd_1218 ((congrFun xo_0 314).trans rfl) xm_206, ag_inv H zh_233 hd (by decide)⟩)) (xB_n (xB_l ⟨_, zs_goto em112_54 (t := 58) (by decide), as_goto⟩) (xB_l ⟨_, zs_iload_n em112_57, as_iload⟩))))))
set_option maxRecDepth 100000 in
set_option maxHeartbeats 4000000 in
theorem zM_119 : zOKa 119 zc_119 := z_auto (cuts := []) (rets := [(25, 1), (58, 1)]) (fuel := 1000) rfl rfl (by decide) (xrt_ok (xR_c (Or.inl ⟨rfl, em112_25, rfl⟩) (xR_c (Or.inl ⟨rfl, em112_58, rfl⟩) (xR_n)))) (fun _ _ H _ hd => zTo_119 H hd) (by decide +kernel)
theorem em113_0 : decode prog_1_method_34_code 0 = .ok (.aload_n 0, 1) := by decide +kernel
theorem em113_1 : decode prog_1_method_34_code 1 = .ok (.iload_n 1, 1) := by decide +kernel
theorem em113_2 : decode prog_1_method_34_code 2 = .ok (.iload_n 2, 1) := by decide +kernel
theorem em113_3 : decode prog_1_method_34_code 3 = .ok (.invokevirtual 147, 3) := by decide +kernel
theorem em113_6 : decode prog_1_method_34_code 6 = .ok (.ifCond .ne 5, 3) := by decide +kernel
theorem em113_9 : decode prog_1_method_34_code 9 = .ok (.iconst (-1), 1) := by decide +kernel
theorem em113_10 : decode prog_1_method_34_code 10 = .ok (.ireturn, 1) := by decide +kernel
theorem em113_11 : decode prog_1_method_34_code 11 = .ok (.aload_n 0, 1) := by decide +kernel
theorem em113_12 : decode prog_1_method_34_code 12 = .ok (.getfield 43, 3) := by decide +kernel
theorem em113_15 : decode prog_1_method_34_code 15 = .ok (.aload_n 0, 1) := by decide +kernel
theorem em113_16 : decode prog_1_method_34_code 16 = .ok (.getfield 39, 3) := by decide +kernel
theorem em113_19 : decode prog_1_method_34_code 19 = .ok (.invokevirtual 275, 3) := by decide +kernel
theorem em113_22 : decode prog_1_method_34_code 22 = .ok (.aload_n 0, 1) := by decide +kernel
theorem em113_23 : decode prog_1_method_34_code 23 = .ok (.getfield 82, 3) := by decide +kernel
theorem em113_26 : decode prog_1_method_34_code 26 = .ok (.aload_n 0, 1) := by decide +kernel
theorem em113_27 : decode prog_1_method_34_code 27 = .ok (.getfield 43, 3) := by decide +kernel
theorem em113_30 : decode prog_1_method_34_code 30 = .ok (.iload_n 1, 1) := by decide +kernel
theorem em113_31 : decode prog_1_method_34_code 31 = .ok (.iload_n 2, 1) := by decide +kernel
theorem em113_32 : decode prog_1_method_34_code 32 = .ok (.invokevirtual 301, 3) := by decide +kernel
theorem em113_35 : decode prog_1_method_34_code 35 = .ok (.ireturn, 1) := by decide +kernel
/-! CapitalCase.wornOut:(II)I -/
noncomputable def zTr_120 : Nat → Option aF := bn 16 (bn 6 (bn 2 (bn 1 (bl 0 (a_aload 0 1)) (bl 1 (a_iload 1 2))) (bn 3 (bl 2 (a_iload 2 3)) (bl 3 (a_invV zG0 zprot (true, false) zc_93 (zbd 93) (9, 0, 0) 11 3 6)))) (bn 11 (bn 9 (bl 6 (a_if 1 11 9)) (bl 9 (a_const (-1) 10))) (bn 12 (bl 11 (a_aload 0 12)) (bn 15 (bl 12 (a_getf zG0 zT0 11 2 15)) (bl 15 (a_aload 0 16)))))) (bn 26 (bn 22 (bn 19 (bl 16 (a_getf zG0 zT0 11 1 19)) (bl 19 (a_invV zG0 zprot (true, false) zc_53 (zbd 53) (9, 0, 0) 8 2 22))) (bn 23 (bl 22 (a_aload 0 23)) (bl 23 (a_getf zG0 zT0 11 3 26)))) (bn 30 (bn 27 (bl 26 (a_aload 0 27)) (bl 27 (a_getf zG0 zT0 11 2 30))) (bn 31 (bl 30 (a_iload 1 31)) (bn 32 (bl 31 (a_iload 2 32)) (bl 32 (a_invV zG0 zprot (true, false) zc_31 (zbd 31) (9, 0, 0) 4 4 35))))))
set_option maxRecDepth 100000 in
set_option maxHeartbeats 4000000 in
theorem zTo_120 {pre : zPre} {post : zPost} (H : zTieC pre post) {d : Nat × Nat × Nat} (hd : zLe (9, 0, 0) d) : aTr zG0 zT0 zInv (true, false) PZ zbd pre post d prog_1_method_34_code "CapitalCase" zTr_120 := (xB_n (xB_n (xB_n (xB_n (xB_l ⟨_, zs_aload_n em113_0, as_aload⟩) (xB_l ⟨_, zs_iload_n em113_1, as_iload⟩)) (xB_n (xB_l ⟨_, zs_iload_n em113_2, as_iload⟩) (xB_l ⟨_, zs_invV (T := TX11) em113_3 zl_93 rfl wd_850 wd_852 wd_19 ((congrFun xo_0 147).trans rfl) xm_88, ag_invV H zh_93 hd (by decide)⟩))) (xB_n (xB_n (xB_l ⟨_, zs_ifne em113_6 (t := 11) (by decide), as_if⟩) (xB_l ⟨_, zs_iconst (v := (-1)) em113_9 (by decide +kernel), as_const (by decide +kernel)⟩)) (xB_n (xB_l ⟨_, zs_aload_n em113_11, as_aload⟩) (xB_n (xB_l ⟨_, zs_getf (T := TX11) (M := 16) (ci := 11) (j := 2) em113_12 rfl inX11 (by decide) wd_559 ((congrFun xo_0 43).trans rfl), as_getf zTie⟩) (xB_l ⟨_, zs_aload_n em113_15, as_aload⟩))))) (xB_n (xB_n (xB_n (xB_l ⟨_, zs_getf (T := TX11) (M := 16) (ci := 11) (j := 1) em113_16 rfl inX11 (by decide) wd_558 ((congrFun xo_0 39).trans rfl), as_getf zTie⟩) (xB_l ⟨_, zs_invV (T := TX8) em113_19 zl_53 rfl wd_1082 wd_973 wd_974 ((congrFun xo_0 275).trans rfl) xm_49, ag_invV H zh_53 hd (by decide)⟩)) (xB_n (xB_l ⟨_, zs_aload_n em113_22, as_aload⟩) (xB_l ⟨_, zs_getf (T := TX11) (M := 16) (ci := 11) (j := 3) em113_23 rfl inX11 (by decide) wd_565 ((congrFun xo_0 82).trans rfl), as_getf zTie⟩))) (xB_n (xB_n (xB_l ⟨_, zs_aload_n em113_26, as_aload⟩) (xB_l ⟨_, zs_getf (T := TX11) (M := 16) (ci := 11) (j := 2) em113_27 rfl inX11 (by decide) wd_559 ((congrFun xo_0 43).trans rfl), as_getf zTie⟩)) (xB_n (xB_l ⟨_, zs_iload_n em113_30, as_iload⟩) (xB_n (xB_l ⟨_, zs_iload_n em113_31, as_iload⟩) (xB_l ⟨_, zs_invV (T := TX4) em113_32 zl_31 rfl wd_1181 wd_1182 wd_1183 ((congrFun xo_0 301).trans rfl) xm_31, ag_invV H zh_31 hd (by decide)⟩))))))
set_option maxRecDepth 100000 in
set_option maxHeartbeats 4000000 in
theorem zM_120 : zOKa 120 zc_120 := z_auto (cuts := []) (rets := [(10, 1), (35, 1)]) (fuel := 1000) rfl rfl (by decide) (xrt_ok (xR_c (Or.inl ⟨rfl, em113_10, rfl⟩) (xR_c (Or.inl ⟨rfl, em113_35, rfl⟩) (xR_n)))) (fun _ _ H _ hd => zTo_120 H hd) (by decide +kernel)
theorem em114_0 : decode prog_1_method_26_code 0 = .ok (.aload_n 0, 1) := by decide +kernel
theorem em114_1 : decode prog_1_method_26_code 1 = .ok (.iload_n 1, 1) := by decide +kernel
theorem em114_2 : decode prog_1_method_26_code 2 = .ok (.iload_n 2, 1) := by decide +kernel
theorem em114_3 : decode prog_1_method_26_code 3 = .ok (.invokevirtual 147, 3) := by decide +kernel
theorem em114_6 : decode prog_1_method_26_code 6 = .ok (.ifCond .ne 5, 3) := by decide +kernel
theorem em114_9 : decode prog_1_method_26_code 9 = .ok (.iconst (-1), 1) := by decide +kernel
theorem em114_10 : decode prog_1_method_26_code 10 = .ok (.ireturn, 1) := by decide +kernel
theorem em114_11 : decode prog_1_method_26_code 11 = .ok (.aload_n 0, 1) := by decide +kernel
theorem em114_12 : decode prog_1_method_26_code 12 = .ok (.getfield 43, 3) := by decide +kernel
theorem em114_15 : decode prog_1_method_26_code 15 = .ok (.aload_n 0, 1) := by decide +kernel
theorem em114_16 : decode prog_1_method_26_code 16 = .ok (.getfield 39, 3) := by decide +kernel
theorem em114_19 : decode prog_1_method_26_code 19 = .ok (.invokevirtual 275, 3) := by decide +kernel
theorem em114_22 : decode prog_1_method_26_code 22 = .ok (.aload_n 0, 1) := by decide +kernel
theorem em114_23 : decode prog_1_method_26_code 23 = .ok (.getfield 43, 3) := by decide +kernel
theorem em114_26 : decode prog_1_method_26_code 26 = .ok (.getfield 151, 3) := by decide +kernel
theorem em114_29 : decode prog_1_method_26_code 29 = .ok (.iload_n 1, 1) := by decide +kernel
theorem em114_30 : decode prog_1_method_26_code 30 = .ok (.bipush 8, 2) := by decide +kernel
theorem em114_32 : decode prog_1_method_26_code 32 = .ok (.imul, 1) := by decide +kernel
theorem em114_33 : decode prog_1_method_26_code 33 = .ok (.iload_n 2, 1) := by decide +kernel
theorem em114_34 : decode prog_1_method_26_code 34 = .ok (.iadd, 1) := by decide +kernel
theorem em114_35 : decode prog_1_method_26_code 35 = .ok (.dup2, 1) := by decide +kernel
theorem em114_36 : decode prog_1_method_26_code 36 = .ok (.iaload, 1) := by decide +kernel
theorem em114_37 : decode prog_1_method_26_code 37 = .ok (.iconst 1, 1) := by decide +kernel
theorem em114_38 : decode prog_1_method_26_code 38 = .ok (.iadd, 1) := by decide +kernel
theorem em114_39 : decode prog_1_method_26_code 39 = .ok (.iastore, 1) := by decide +kernel
theorem em114_40 : decode prog_1_method_26_code 40 = .ok (.aload_n 0, 1) := by decide +kernel
theorem em114_41 : decode prog_1_method_26_code 41 = .ok (.getfield 89, 3) := by decide +kernel
theorem em114_44 : decode prog_1_method_26_code 44 = .ok (.aload_n 0, 1) := by decide +kernel
theorem em114_45 : decode prog_1_method_26_code 45 = .ok (.getfield 43, 3) := by decide +kernel
theorem em114_48 : decode prog_1_method_26_code 48 = .ok (.invokevirtual 266, 3) := by decide +kernel
theorem em114_51 : decode prog_1_method_26_code 51 = .ok (.aload_n 0, 1) := by decide +kernel
theorem em114_52 : decode prog_1_method_26_code 52 = .ok (.getfield 89, 3) := by decide +kernel
theorem em114_55 : decode prog_1_method_26_code 55 = .ok (.getfield 269, 3) := by decide +kernel
theorem em114_58 : decode prog_1_method_26_code 58 = .ok (.istore_n 3, 1) := by decide +kernel
theorem em114_59 : decode prog_1_method_26_code 59 = .ok (.aload_n 0, 1) := by decide +kernel
theorem em114_60 : decode prog_1_method_26_code 60 = .ok (.getfield 89, 3) := by decide +kernel
theorem em114_63 : decode prog_1_method_26_code 63 = .ok (.aload_n 0, 1) := by decide +kernel
theorem em114_64 : decode prog_1_method_26_code 64 = .ok (.getfield 39, 3) := by decide +kernel
theorem em114_67 : decode prog_1_method_26_code 67 = .ok (.invokevirtual 266, 3) := by decide +kernel
theorem em114_70 : decode prog_1_method_26_code 70 = .ok (.iload_n 3, 1) := by decide +kernel
theorem em114_71 : decode prog_1_method_26_code 71 = .ok (.aload_n 0, 1) := by decide +kernel
theorem em114_72 : decode prog_1_method_26_code 72 = .ok (.getfield 89, 3) := by decide +kernel
theorem em114_75 : decode prog_1_method_26_code 75 = .ok (.getfield 269, 3) := by decide +kernel
theorem em114_78 : decode prog_1_method_26_code 78 = .ok (.isub, 1) := by decide +kernel
theorem em114_79 : decode prog_1_method_26_code 79 = .ok (.ireturn, 1) := by decide +kernel
/-! CapitalCase.worth:(II)I -/
noncomputable def zTr_121 : Nat → Option aF := bn 37 (bn 19 (bn 9 (bn 2 (bn 1 (bl 0 (a_aload 0 1)) (bl 1 (a_iload 1 2))) (bn 3 (bl 2 (a_iload 2 3)) (bn 6 (bl 3 (a_invV zG0 zprot (true, false) zc_93 (zbd 93) (22, 0, 0) 11 3 6)) (bl 6 (a_if 1 11 9))))) (bn 12 (bn 11 (bl 9 (a_const (-1) 10)) (bl 11 (a_aload 0 12))) (bn 15 (bl 12 (a_getf zG0 zT0 11 2 15)) (bn 16 (bl 15 (a_aload 0 16)) (bl 16 (a_getf zG0 zT0 11 1 19)))))) (bn 30 (bn 23 (bn 22 (bl 19 (a_invV zG0 zprot (true, false) zc_53 (zbd 53) (22, 0, 0) 8 2 22)) (bl 22 (a_aload 0 23))) (bn 26 (bl 23 (a_getf zG0 zT0 11 2 26)) (bn 29 (bl 26 (a_getf zG0 zT0 8 0 29)) (bl 29 (a_iload 1 30))))) (bn 34 (bn 32 (bl 30 (a_const 8 32)) (bn 33 (bl 32 (a_bin fmul 33)) (bl 33 (a_iload 2 34)))) (bn 35 (bl 34 (a_bin fadd 35)) (bn 36 (bl 35 (a_dup2 36)) (bl 36 (a_ald zG0 zT0 (true, false) ts0 37))))))) (bn 58 (bn 44 (bn 39 (bn 38 (bl 37 (a_const 1 38)) (bl 38 (a_bin fadd 39))) (bn 40 (bl 39 (a_ast zG0 zT0 ts0 40)) (bn 41 (bl 40 (a_aload 0 41)) (bl 41 (a_getf zG0 zT0 11 4 44))))) (bn 51 (bn 45 (bl 44 (a_aload 0 45)) (bn 48 (bl 45 (a_getf zG0 zT0 11 2 48)) (bl 48 (a_invV zG0 zprot (true, false) zc_28 (zbd 28) (22, 0, 0) 3 2 51)))) (bn 52 (bl 51 (a_aload 0 52)) (bn 55 (bl 52 (a_getf zG0 zT0 11 4 55)) (bl 55 (a_getf zG0 zT0 3 6 58)))))) (bn 67 (bn 60 (bn 59 (bl 58 (a_istore 3 59)) (bl 59 (a_aload 0 60))) (bn 63 (bl 60 (a_getf zG0 zT0 11 4 63)) (bn 64 (bl 63 (a_aload 0 64)) (bl 64 (a_getf zG0 zT0 11 1 67))))) (bn 72 (bn 70 (bl 67 (a_invV zG0 zprot (true, false) zc_28 (zbd 28) (22, 0, 0) 3 2 70)) (bn 71 (bl 70 (a_iload 3 71)) (bl 71 (a_aload 0 72)))) (bn 75 (bl 72 (a_getf zG0 zT0 11 4 75)) (bn 78 (bl 75 (a_getf zG0 zT0 3 6 78)) (bl 78 (a_bin fsub 79)))))))
set_option maxRecDepth 100000 in
set_option maxHeartbeats 4000000 in
theorem zTo_121 {pre : zPre} {post : zPost} (H : zTieC pre post) {d : Nat × Nat × Nat} (hd : zLe (22, 0, 0) d) : aTr zG0 zT0 zInv (true, false) PZ zbd pre post d prog_1_method_26_code "CapitalCase" zTr_121 := (xB_n (xB_n (xB_n (xB_n (xB_n (xB_l ⟨_, zs_aload_n em114_0, as_aload⟩) (xB_l ⟨_, zs_iload_n em114_1, as_iload⟩)) (xB_n (xB_l ⟨_, zs_iload_n em114_2, as_iload⟩) (xB_n (xB_l ⟨_, zs_invV (T := TX11) em114_3 zl_93 rfl wd_850 wd_852 wd_19 ((congrFun xo_0 147).trans rfl) xm_88, ag_invV H zh_93 hd (by decide)⟩) (xB_l ⟨_, zs_ifne em114_6 (t := 11) (by decide), as_if⟩)))) (xB_n (xB_n (xB_l ⟨_, zs_iconst (v := (-1)) em114_9 (by decide +kernel), as_const (by decide +kernel)⟩) (xB_l ⟨_, zs_aload_n em114_11, as_aload⟩)) (xB_n (xB_l ⟨_, zs_getf (T := TX11) (M := 16) (ci := 11) (j := 2) em114_12 rfl inX11 (by decide) wd_559 ((congrFun xo_0 43).trans rfl), as_getf zTie⟩) (xB_n (xB_l ⟨_, zs_aload_n em114_15, as_aload⟩) (xB_l ⟨_, zs_getf (T := TX11) (M := 16) (ci := 11) (j := 1) em114_16 rfl inX11 (by decide) wd_558 ((congrFun xo_0 39).trans rfl), as_getf zTie⟩))))) (xB_n (xB_n (xB_n (xB_l ⟨_, zs_invV (T := TX8) em114_19 zl_53 rfl wd_1082 wd_973 wd_974 ((congrFun xo_0 275).trans rfl) xm_49, ag_invV H zh_53 hd (by decide)⟩) (xB_l ⟨_, zs_aload_n em114_22, as_aload⟩)) (xB_n (xB_l ⟨_, zs_getf (T := TX11) (M := 16) (ci := 11) (j := 2) em114_23 rfl inX11 (by decide) wd_559 ((congrFun xo_0 43).trans rfl), as_getf zTie⟩) (xB_n (xB_l ⟨_, zs_getf (T := TX8) (M := 10) (ci := 8) (j := 0) em114_26 rfl inX8 (by decide) wd_324 ((congrFun xo_0 151).trans rfl), as_getf zTie⟩) (xB_l ⟨_, zs_iload_n em114_29, as_iload⟩)))) (xB_n (xB_n (xB_l ⟨_, zs_bipush (v := 8) em114_30 (by decide +kernel), as_const (by decide +kernel)⟩) (xB_n (xB_l ⟨_, zs_imul em114_32, as_bin fmul_ok⟩) (xB_l ⟨_, zs_iload_n em114_33, as_iload⟩))) (xB_n (xB_l ⟨_, zs_iadd em114_34, as_bin fadd_ok⟩) (xB_n (xB_l ⟨_, zs_dup2 em114_35, as_dup2⟩) (xB_l ⟨_, zs_iald em114_36, ag_iald⟩)))))) (xB_n (xB_n (xB_n (xB_n (xB_l ⟨_, zs_iconst (v := 1) em114_37 (by decide +kernel), as_const (by decide +kernel)⟩) (xB_l ⟨_, zs_iadd em114_38, as_bin fadd_ok⟩)) (xB_n (xB_l ⟨_, zs_iast zInj0 em114_39, as_iast zTie⟩) (xB_n (xB_l ⟨_, zs_aload_n em114_40, as_aload⟩) (xB_l ⟨_, zs_getf (T := TX11) (M := 16) (ci := 11) (j := 4) em114_41 rfl inX11 (by decide) wd_566 ((congrFun xo_0 89).trans rfl), as_getf zTie⟩)))) (xB_n (xB_n (xB_l ⟨_, zs_aload_n em114_44, as_aload⟩) (xB_n (xB_l ⟨_, zs_getf (T := TX11) (M := 16) (ci := 11) (j := 2) em114_45 rfl inX11 (by decide) wd_559 ((congrFun xo_0 43).trans rfl), as_getf zTie⟩) (xB_l ⟨_, zs_invV (T := TX3) em114_48 zl_28 rfl wd_1060 wd_1061 wd_1062 ((congrFun xo_0 266).trans rfl) xm_28, ag_invV H zh_28 hd (by decide)⟩))) (xB_n (xB_l ⟨_, zs_aload_n em114_51, as_aload⟩) (xB_n (xB_l ⟨_, zs_getf (T := TX11) (M := 16) (ci := 11) (j := 4) em114_52 rfl inX11 (by decide) wd_566 ((congrFun xo_0 89).trans rfl), as_getf zTie⟩) (xB_l ⟨_, zs_getf (T := TX3) (M := 12) (ci := 3) (j := 6) em114_55 rfl inX3 (by decide) wd_463 ((congrFun xo_0 269).trans rfl), as_getf zTie⟩))))) (xB_n (xB_n (xB_n (xB_l ⟨_, zs_istore_n em114_58, as_istore⟩) (xB_l ⟨_, zs_aload_n em114_59, as_aload⟩)) (xB_n (xB_l ⟨_, zs_getf (T := TX11) (M := 16) (ci := 11) (j := 4) em114_60 rfl inX11 (by decide) wd_566 ((congrFun xo_0 89).trans rfl), as_getf zTie⟩) (xB_n (xB_l ⟨_, zs_aload_n em114_63, as_aload⟩) (xB_l ⟨_, zs_getf (T := TX11) (M := 16) (ci := 11) (j := 1) em114_64 rfl inX11 (by decide) wd_558 ((congrFun xo_0 39).trans rfl), as_getf zTie⟩)))) (xB_n (xB_n (xB_l ⟨_, zs_invV (T := TX3) em114_67 zl_28 rfl wd_1060 wd_1061 wd_1062 ((congrFun xo_0 266).trans rfl) xm_28, ag_invV H zh_28 hd (by decide)⟩) (xB_n (xB_l ⟨_, zs_iload_n em114_70, as_iload⟩) (xB_l ⟨_, zs_aload_n em114_71, as_aload⟩))) (xB_n (xB_l ⟨_, zs_getf (T := TX11) (M := 16) (ci := 11) (j := 4) em114_72 rfl inX11 (by decide) wd_566 ((congrFun xo_0 89).trans rfl), as_getf zTie⟩) (xB_n (xB_l ⟨_, zs_getf (T := TX3) (M := 12) (ci := 3) (j := 6) em114_75 rfl inX3 (by decide) wd_463 ((congrFun xo_0 269).trans rfl), as_getf zTie⟩) (xB_l ⟨_, zs_isub em114_78, as_bin fsub_ok⟩)))))))
set_option maxRecDepth 100000 in
set_option maxHeartbeats 4000000 in
theorem zM_121 : zOKa 121 zc_121 := z_auto (cuts := []) (rets := [(10, 1), (79, 1)]) (fuel := 1000) rfl rfl (by decide) (xrt_ok (xR_c (Or.inl ⟨rfl, em114_10, rfl⟩) (xR_c (Or.inl ⟨rfl, em114_79, rfl⟩) (xR_n)))) (fun _ _ H _ hd => zTo_121 H hd) (by decide +kernel)
theorem em115_0 : decode prog_1_method_37_code 0 = .ok (.aload_n 0, 1) := by decide +kernel
theorem em115_1 : decode prog_1_method_37_code 1 = .ok (.iload_n 1, 1) := by decide +kernel
theorem em115_2 : decode prog_1_method_37_code 2 = .ok (.iload_n 2, 1) := by decide +kernel
theorem em115_3 : decode prog_1_method_37_code 3 = .ok (.invokevirtual 147, 3) := by decide +kernel
theorem em115_6 : decode prog_1_method_37_code 6 = .ok (.ifCond .eq 26, 3) := by decide +kernel
theorem em115_9 : decode prog_1_method_37_code 9 = .ok (.iload_n 3, 1) := by decide +kernel
theorem em115_10 : decode prog_1_method_37_code 10 = .ok (.ifCond .lt 22, 3) := by decide +kernel
theorem em115_13 : decode prog_1_method_37_code 13 = .ok (.iload_n 3, 1) := by decide +kernel
theorem em115_14 : decode prog_1_method_37_code 14 = .ok (.bipush 60, 2) := by decide +kernel
theorem em115_16 : decode prog_1_method_37_code 16 = .ok (.if_icmp .gt 16, 3) := by decide +kernel
theorem em115_19 : decode prog_1_method_37_code 19 = .ok (.iload 4, 2) := by decide +kernel
theorem em115_21 : decode prog_1_method_37_code 21 = .ok (.iconst 1, 1) := by decide +kernel
theorem em115_22 : decode prog_1_method_37_code 22 = .ok (.if_icmp .lt 10, 3) := by decide +kernel
theorem em115_25 : decode prog_1_method_37_code 25 = .ok (.iload 4, 2) := by decide +kernel
theorem em115_27 : decode prog_1_method_37_code 27 = .ok (.bipush 20, 2) := by decide +kernel
theorem em115_29 : decode prog_1_method_37_code 29 = .ok (.if_icmp .le 5, 3) := by decide +kernel
theorem em115_32 : decode prog_1_method_37_code 32 = .ok (.iconst (-1), 1) := by decide +kernel
theorem em115_33 : decode prog_1_method_37_code 33 = .ok (.ireturn, 1) := by decide +kernel
theorem em115_34 : decode prog_1_method_37_code 34 = .ok (.iconst 0, 1) := by decide +kernel
theorem em115_35 : decode prog_1_method_37_code 35 = .ok (.istore 5, 2) := by decide +kernel
theorem em115_37 : decode prog_1_method_37_code 37 = .ok (.iconst 0, 1) := by decide +kernel
theorem em115_38 : decode prog_1_method_37_code 38 = .ok (.istore 6, 2) := by decide +kernel
theorem em115_40 : decode prog_1_method_37_code 40 = .ok (.iload 6, 2) := by decide +kernel
theorem em115_42 : decode prog_1_method_37_code 42 = .ok (.iload 4, 2) := by decide +kernel
theorem em115_44 : decode prog_1_method_37_code 44 = .ok (.if_icmp .ge 62, 3) := by decide +kernel
theorem em115_47 : decode prog_1_method_37_code 47 = .ok (.aload_n 0, 1) := by decide +kernel
theorem em115_48 : decode prog_1_method_37_code 48 = .ok (.getfield 43, 3) := by decide +kernel
theorem em115_51 : decode prog_1_method_37_code 51 = .ok (.aload_n 0, 1) := by decide +kernel
theorem em115_52 : decode prog_1_method_37_code 52 = .ok (.getfield 39, 3) := by decide +kernel
theorem em115_55 : decode prog_1_method_37_code 55 = .ok (.invokevirtual 275, 3) := by decide +kernel
theorem em115_58 : decode prog_1_method_37_code 58 = .ok (.aload_n 0, 1) := by decide +kernel
theorem em115_59 : decode prog_1_method_37_code 59 = .ok (.getfield 82, 3) := by decide +kernel
theorem em115_62 : decode prog_1_method_37_code 62 = .ok (.aload_n 0, 1) := by decide +kernel
theorem em115_63 : decode prog_1_method_37_code 63 = .ok (.getfield 43, 3) := by decide +kernel
theorem em115_66 : decode prog_1_method_37_code 66 = .ok (.iload_n 3, 1) := by decide +kernel
theorem em115_67 : decode prog_1_method_37_code 67 = .ok (.aload_n 0, 1) := by decide +kernel
theorem em115_68 : decode prog_1_method_37_code 68 = .ok (.getfield 23, 3) := by decide +kernel
theorem em115_71 : decode prog_1_method_37_code 71 = .ok (.getfield 249, 3) := by decide +kernel
theorem em115_74 : decode prog_1_method_37_code 74 = .ok (.iload 6, 2) := by decide +kernel
theorem em115_76 : decode prog_1_method_37_code 76 = .ok (.iadd, 1) := by decide +kernel
theorem em115_77 : decode prog_1_method_37_code 77 = .ok (.invokevirtual 252, 3) := by decide +kernel
theorem em115_80 : decode prog_1_method_37_code 80 = .ok (.aload_n 0, 1) := by decide +kernel
theorem em115_81 : decode prog_1_method_37_code 81 = .ok (.getfield 43, 3) := by decide +kernel
theorem em115_84 : decode prog_1_method_37_code 84 = .ok (.getfield 151, 3) := by decide +kernel
theorem em115_87 : decode prog_1_method_37_code 87 = .ok (.iload_n 1, 1) := by decide +kernel
theorem em115_88 : decode prog_1_method_37_code 88 = .ok (.bipush 8, 2) := by decide +kernel
theorem em115_90 : decode prog_1_method_37_code 90 = .ok (.imul, 1) := by decide +kernel
theorem em115_91 : decode prog_1_method_37_code 91 = .ok (.iload_n 2, 1) := by decide +kernel
theorem em115_92 : decode prog_1_method_37_code 92 = .ok (.iadd, 1) := by decide +kernel
theorem em115_93 : decode prog_1_method_37_code 93 = .ok (.iaload, 1) := by decide +kernel
theorem em115_94 : decode prog_1_method_37_code 94 = .ok (.ifCond .le 6, 3) := by decide +kernel
theorem em115_97 : decode prog_1_method_37_code 97 = .ok (.iinc 5 1, 3) := by decide +kernel
theorem em115_100 : decode prog_1_method_37_code 100 = .ok (.iinc 6 1, 3) := by decide +kernel
theorem em115_103 : decode prog_1_method_37_code 103 = .ok (.goto (-63), 3) := by decide +kernel
theorem em115_106 : decode prog_1_method_37_code 106 = .ok (.iload 5, 2) := by decide +kernel
theorem em115_108 : decode prog_1_method_37_code 108 = .ok (.ireturn, 1) := by decide +kernel
/-! CapitalCase.year:(IIII)I -/
noncomputable def zTr_122 : Nat → Option aF := bn 52 (bn 25 (bn 10 (bn 3 (bn 1 (bl 0 (a_aload 0 1)) (bn 2 (bl 1 (a_iload 1 2)) (bl 2 (a_iload 2 3)))) (bn 6 (bl 3 (a_invV zG0 zprot (true, false) zc_93 (zbd 93) (10, 0, 0) 11 3 6)) (bn 9 (bl 6 (a_if 0 32 9)) (bl 9 (a_iload 3 10))))) (bn 16 (bn 13 (bl 10 (a_if 2 32 13)) (bn 14 (bl 13 (a_iload 3 14)) (bl 14 (a_const 60 16)))) (bn 21 (bn 19 (bl 16 (a_icmp 4 32 19)) (bl 19 (a_iload 4 21))) (bn 22 (bl 21 (a_const 1 22)) (bl 22 (a_icmp 2 32 25)))))) (bn 38 (bn 32 (bn 27 (bl 25 (a_iload 4 27)) (bn 29 (bl 27 (a_const 20 29)) (bl 29 (a_icmp 5 34 32)))) (bn 35 (bn 34 (bl 32 (a_const (-1) 33)) (bl 34 (a_const 0 35))) (bn 37 (bl 35 (a_istore 5 37)) (bl 37 (a_const 0 38))))) (bn 44 (bn 40 (bl 38 (a_istore 6 40)) (bn 42 (bl 40 (a_iload 6 42)) (bl 42 (a_iload 4 44)))) (bn 48 (bn 47 (bl 44 (a_icmp 3 106 47)) (bl 47 (a_aload 0 48))) (bn 51 (bl 48 (a_getf zG0 zT0 11 2 51)) (bl 51 (a_aload 0 52))))))) (bn 80 (bn 66 (bn 59 (bn 55 (bl 52 (a_getf zG0 zT0 11 1 55)) (bn 58 (bl 55 (a_invV zG0 zprot (true, false) zc_53 (zbd 53) (10, 0, 0) 8 2 58)) (bl 58 (a_aload 0 59)))) (bn 62 (bl 59 (a_getf zG0 zT0 11 3 62)) (bn 63 (bl 62 (a_aload 0 63)) (bl 63 (a_getf zG0 zT0 11 2 66))))) (bn 71 (bn 67 (bl 66 (a_iload 3 67)) (bn 68 (bl 67 (a_aload 0 68)) (bl 68 (a_getf zG0 zT0 11 0 71)))) (bn 76 (bn 74 (bl 71 (a_getf zG0 zT0 6 3 74)) (bl 74 (a_iload 6 76))) (bn 77 (bl 76 (a_bin fadd 77)) (bl 77 (a_invV zG0 zprot (true, false) zc_36 (zbd 36) (10, 0, 0) 4 4 80)))))) (bn 92 (bn 87 (bn 81 (bl 80 (a_aload 0 81)) (bn 84 (bl 81 (a_getf zG0 zT0 11 2 84)) (bl 84 (a_getf zG0 zT0 8 0 87)))) (bn 90 (bn 88 (bl 87 (a_iload 1 88)) (bl 88 (a_const 8 90))) (bn 91 (bl 90 (a_bin fmul 91)) (bl 91 (a_iload 2 92))))) (bn 97 (bn 93 (bl 92 (a_bin fadd 93)) (bn 94 (bl 93 (a_ald zG0 zT0 (true, false) ts0 94)) (bl 94 (a_if 5 100 97)))) (bn 103 (bn 100 (bl 97 (a_iinc 5 1 100)) (bl 100 (a_iinc 6 1 103))) (bn 106 (bl 103 (a_goto 40)) (bl 106 (a_iload 5 108)))))))
set_option maxRecDepth 100000 in
set_option maxHeartbeats 4000000 in
theorem zTo_122 {pre : zPre} {post : zPost} (H : zTieC pre post) {d : Nat × Nat × Nat} (hd : zLe (10, 0, 0) d) : aTr zG0 zT0 zInv (true, false) PZ zbd pre post d prog_1_method_37_code "CapitalCase" zTr_122 := (xB_n (xB_n (xB_n (xB_n (xB_n (xB_l ⟨_, zs_aload_n em115_0, as_aload⟩) (xB_n (xB_l ⟨_, zs_iload_n em115_1, as_iload⟩) (xB_l ⟨_, zs_iload_n em115_2, as_iload⟩))) (xB_n (xB_l ⟨_, zs_invV (T := TX11) em115_3 zl_93 rfl wd_850 wd_852 wd_19 ((congrFun xo_0 147).trans rfl) xm_88, ag_invV H zh_93 hd (by decide)⟩) (xB_n (xB_l ⟨_, zs_ifeq em115_6 (t := 32) (by decide), as_if⟩) (xB_l ⟨_, zs_iload_n em115_9, as_iload⟩)))) (xB_n (xB_n (xB_l ⟨_, zs_iflt em115_10 (t := 32) (by decide), as_if⟩) (xB_n (xB_l ⟨_, zs_iload_n em115_13, as_iload⟩) (xB_l ⟨_, zs_bipush (v := 60) em115_14 (by decide +kernel), as_const (by decide +kernel)⟩))) (xB_n (xB_n (xB_l ⟨_, zs_icmpgt em115_16 (t := 32) (by decide), as_icmp⟩) (xB_l ⟨_, zs_iload em115_19, as_iload⟩)) (xB_n (xB_l ⟨_, zs_iconst (v := 1) em115_21 (by decide +kernel), as_const (by decide +kernel)⟩) (xB_l ⟨_, zs_icmplt em115_22 (t := 32) (by decide), as_icmp⟩))))) (xB_n (xB_n (xB_n (xB_l ⟨_, zs_iload em115_25, as_iload⟩) (xB_n (xB_l ⟨_, zs_bipush (v := 20) em115_27 (by decide +kernel), as_const (by decide +kernel)⟩) (xB_l ⟨_, zs_icmple em115_29 (t := 34) (by decide), as_icmp⟩))) (xB_n (xB_n (xB_l ⟨_, zs_iconst (v := (-1)) em115_32 (by decide +kernel), as_const (by decide +kernel)⟩) (xB_l ⟨_, zs_iconst (v := 0) em115_34 (by decide +kernel), as_const (by decide +kernel)⟩)) (xB_n (xB_l ⟨_, zs_istore em115_35, as_istore⟩) (xB_l ⟨_, zs_iconst (v := 0) em115_37 (by decide +kernel), as_const (by decide +kernel)⟩)))) (xB_n (xB_n (xB_l ⟨_, zs_istore em115_38, as_istore⟩) (xB_n (xB_l ⟨_, zs_iload em115_40, as_iload⟩) (xB_l ⟨_, zs_iload em115_42, as_iload⟩))) (xB_n (xB_n (xB_l ⟨_, zs_icmpge em115_44 (t := 106) (by decide), as_icmp⟩) (xB_l ⟨_, zs_aload_n em115_47, as_aload⟩)) (xB_n (xB_l ⟨_, zs_getf (T := TX11) (M := 16) (ci := 11) (j := 2) em115_48 rfl inX11 (by decide) wd_559 ((congrFun xo_0 43).trans rfl), as_getf zTie⟩) (xB_l ⟨_, zs_aload_n em115_51, as_aload⟩)))))) (xB_n (xB_n (xB_n (xB_n (xB_l ⟨_, zs_getf (T := TX11) (M := 16) (ci := 11) (j := 1) em115_52 rfl inX11 (by decide) wd_558 ((congrFun xo_0 39).trans rfl), as_getf zTie⟩) (xB_n (xB_l ⟨_, zs_invV (T := TX8) em115_55 zl_53 rfl wd_1082 wd_973 wd_974 ((congrFun xo_0 275).trans rfl) xm_49, ag_invV H zh_53 hd (by decide)⟩) (xB_l ⟨_, zs_aload_n em115_58, as_aload⟩))) (xB_n (xB_l ⟨_, zs_getf (T := TX11) (M := 16) (ci := 11) (j := 3) em115_59 rfl inX11 (by decide) wd_565 ((congrFun xo_0 82).trans rfl), as_getf zTie⟩) (xB_n (xB_l ⟨_, zs_aload_n em115_62, as_aload⟩) (xB_l ⟨_, zs_getf (T := TX11) (M := 16) (ci := 11) (j := 2) em115_63 rfl inX11 (by decide) wd_559 ((congrFun xo_0 43).trans rfl), as_getf zTie⟩)))) (xB_n (xB_n (xB_l ⟨_, zs_iload_n em115_66, as_iload⟩) (xB_n (xB_l ⟨_, zs_aload_n em115_67, as_aload⟩) (xB_l ⟨_, zs_getf (T := TX11) (M := 16) (ci := 11) (j := 0) em115_68 rfl inX11 (by decide) wd_556 ((congrFun xo_0 23).trans rfl), as_getf zTie⟩))) (xB_n (xB_n (xB_l ⟨_, zs_getf (T := TX6) (M := 15) (ci := 6) (j := 3) em115_71 rfl inX6 (by decide) wd_183 ((congrFun xo_0 249).trans rfl), as_getf zTie⟩) (xB_l ⟨_, zs_iload em115_74, as_iload⟩)) (xB_n (xB_l ⟨_, zs_iadd em115_76, as_bin fadd_ok⟩) (xB_l ⟨_, zs_invV (T := TX4) em115_77 zl_36 rfl wd_1005 wd_1006 wd_1007 ((congrFun xo_0 252).trans rfl) xm_35, ag_invV H zh_36 hd (by decide)⟩))))) (xB_n (xB_n (xB_n (xB_l ⟨_, zs_aload_n em115_80, as_aload⟩) (xB_n (xB_l ⟨_, zs_getf (T := TX11) (M := 16) (ci := 11) (j := 2) em115_81 rfl inX11 (by decide) wd_559 ((congrFun xo_0 43).trans rfl), as_getf zTie⟩) (xB_l ⟨_, zs_getf (T := TX8) (M := 10) (ci := 8) (j := 0) em115_84 rfl inX8 (by decide) wd_324 ((congrFun xo_0 151).trans rfl), as_getf zTie⟩))) (xB_n (xB_n (xB_l ⟨_, zs_iload_n em115_87, as_iload⟩) (xB_l ⟨_, zs_bipush (v := 8) em115_88 (by decide +kernel), as_const (by decide +kernel)⟩)) (xB_n (xB_l ⟨_, zs_imul em115_90, as_bin fmul_ok⟩) (xB_l ⟨_, zs_iload_n em115_91, as_iload⟩)))) (xB_n (xB_n (xB_l ⟨_, zs_iadd em115_92, as_bin fadd_ok⟩) (xB_n (xB_l ⟨_, zs_iald em115_93, ag_iald⟩) (xB_l ⟨_, zs_ifle em115_94 (t := 100) (by decide), as_if⟩))) (xB_n (xB_n (xB_l ⟨_, zs_iinc (k := 1) em115_97 (by decide +kernel), as_iinc (by decide +kernel)⟩) (xB_l ⟨_, zs_iinc (k := 1) em115_100 (by decide +kernel), as_iinc (by decide +kernel)⟩)) (xB_n (xB_l ⟨_, zs_goto em115_103 (t := 40) (by decide), as_goto⟩) (xB_l ⟨_, zs_iload em115_106, as_iload⟩)))))))
set_option maxRecDepth 100000 in
set_option maxHeartbeats 4000000 in
theorem zM_122 : zOKa 122 zc_122 := z_auto (cuts := [(40, ([(0, 0), (0, 4), (0, 7), (0, 60), (1, 20), (0, 408), (0, 5), (0, 7), ((-2147483648), 2147483647), (0, 20)], [], [some (.inr (.inl (0, 0))), some (.inl (1, 0)), some (.inl (2, 0)), some (.inl (3, 0)), some (.inl (4, 0)), some (.inl (8, 0)), some (.inl (9, 0))], [], [(4, 5, 0), (5, 6, 0), (6, 7, 0)], (0, 0)), [(0, 5), (0, 6)], 20, [0, 0, 0, 0, 0, 0, 0, 0, 0, (-1)])]) (rets := [(33, 1), (108, 1)]) (fuel := 1000) rfl rfl (by decide) (xrt_ok (xR_c (Or.inl ⟨rfl, em115_33, rfl⟩) (xR_c (Or.inl ⟨rfl, em115_108, rfl⟩) (xR_n)))) (fun _ _ H _ hd => zTo_122 H hd) (by decide +kernel)
theorem em116_0 : decode prog_14_method_51_code 0 = .ok (.aload_n 0, 1) := by decide +kernel
theorem em116_1 : decode prog_14_method_51_code 1 = .ok (.iconst 4, 1) := by decide +kernel
theorem em116_2 : decode prog_14_method_51_code 2 = .ok (.aload_n 0, 1) := by decide +kernel
theorem em116_3 : decode prog_14_method_51_code 3 = .ok (.getfield 116, 3) := by decide +kernel
theorem em116_6 : decode prog_14_method_51_code 6 = .ok (.sipush 386, 3) := by decide +kernel
theorem em116_9 : decode prog_14_method_51_code 9 = .ok (.iaload, 1) := by decide +kernel
theorem em116_10 : decode prog_14_method_51_code 10 = .ok (.imul, 1) := by decide +kernel
theorem em116_11 : decode prog_14_method_51_code 11 = .ok (.bipush 100, 2) := by decide +kernel
theorem em116_13 : decode prog_14_method_51_code 13 = .ok (.invokevirtual 341, 3) := by decide +kernel
theorem em116_16 : decode prog_14_method_51_code 16 = .ok (.aload_n 0, 1) := by decide +kernel
theorem em116_17 : decode prog_14_method_51_code 17 = .ok (.getfield 67, 3) := by decide +kernel
theorem em116_20 : decode prog_14_method_51_code 20 = .ok (.aload_n 0, 1) := by decide +kernel
theorem em116_21 : decode prog_14_method_51_code 21 = .ok (.getfield 230, 3) := by decide +kernel
theorem em116_24 : decode prog_14_method_51_code 24 = .ok (.iaload, 1) := by decide +kernel
theorem em116_25 : decode prog_14_method_51_code 25 = .ok (.if_icmp .ge 7, 3) := by decide +kernel
theorem em116_28 : decode prog_14_method_51_code 28 = .ok (.iconst 1, 1) := by decide +kernel
theorem em116_29 : decode prog_14_method_51_code 29 = .ok (.goto 4, 3) := by decide +kernel
theorem em116_32 : decode prog_14_method_51_code 32 = .ok (.iconst 0, 1) := by decide +kernel
theorem em116_33 : decode prog_14_method_51_code 33 = .ok (.ireturn, 1) := by decide +kernel
/-! CapitalCaseModel.areThieves:()Z -/
noncomputable def zTr_123 : Nat → Option aF := bn 16 (bn 6 (bn 2 (bn 1 (bl 0 (a_aload 0 1)) (bl 1 (a_const 4 2))) (bn 3 (bl 2 (a_aload 0 3)) (bl 3 (a_getf zG0 zT0 12 0 6)))) (bn 10 (bn 9 (bl 6 (a_const 386 9)) (bl 9 (a_ald zG0 zT0 (false, false) ts0 10))) (bn 11 (bl 10 (a_bin fmul 11)) (bn 13 (bl 11 (a_const 100 13)) (bl 13 (a_invV zG0 zprot (false, false) zc_193 (zbd 193) (2, 0, 0) 12 3 16)))))) (bn 24 (bn 20 (bn 17 (bl 16 (a_aload 0 17)) (bl 17 (a_getf zG0 zT0 12 9 20))) (bn 21 (bl 20 (a_aload 0 21)) (bl 21 (a_getf zG0 zT0 12 2 24)))) (bn 28 (bn 25 (bl 24 (a_ald zG0 zT0 (false, false) ts0 25)) (bl 25 (a_icmp 3 32 28))) (bn 29 (bl 28 (a_const 1 29)) (bn 32 (bl 29 (a_goto 33)) (bl 32 (a_const 0 33))))))
set_option maxRecDepth 100000 in
set_option maxHeartbeats 4000000 in
theorem zTo_123 {pre : zPre} {post : zPost} (H : zTieC pre post) {d : Nat × Nat × Nat} (hd : zLe (2, 0, 0) d) : aTr zG0 zT0 zInv (false, false) PZ zbd pre post d prog_14_method_51_code "CapitalCaseModel" zTr_123 := (xB_n (xB_n (xB_n (xB_n (xB_l ⟨_, zs_aload_n em116_0, as_aload⟩) (xB_l ⟨_, zs_iconst (v := 4) em116_1 (by decide +kernel), as_const (by decide +kernel)⟩)) (xB_n (xB_l ⟨_, zs_aload_n em116_2, as_aload⟩) (xB_l ⟨_, zs_getf (T := TX12) (M := 70) (ci := 12) (j := 0) em116_3 rfl inX12 (by decide) wd_1332 ((congrFun xo_12 116).trans rfl), as_getf zTie⟩))) (xB_n (xB_n (xB_l ⟨_, zs_sipush (v := 386) em116_6 (by decide +kernel), as_const (by decide +kernel)⟩) (xB_l ⟨_, zs_iald em116_9, ag_iald⟩)) (xB_n (xB_l ⟨_, zs_imul em116_10, as_bin fmul_ok⟩) (xB_n (xB_l ⟨_, zs_bipush (v := 100) em116_11 (by decide +kernel), as_const (by decide +kernel)⟩) (xB_l ⟨_, zs_invV (T := TX12) em116_13 zl_193 rfl wd_1770 wd_1772 wd_97 ((congrFun xo_12 341).trans rfl) xm_167, ag_invV H zh_193 hd (by decide)⟩))))) (xB_n (xB_n (xB_n (xB_l ⟨_, zs_aload_n em116_16, as_aload⟩) (xB_l ⟨_, zs_getf (T := TX12) (M := 70) (ci := 12) (j := 9) em116_17 rfl inX12 (by decide) wd_1311 ((congrFun xo_12 67).trans rfl), as_getf zTie⟩)) (xB_n (xB_l ⟨_, zs_aload_n em116_20, as_aload⟩) (xB_l ⟨_, zs_getf (T := TX12) (M := 70) (ci := 12) (j := 2) em116_21 rfl inX12 (by decide) wd_1299 ((congrFun xo_12 230).trans rfl), as_getf zTie⟩))) (xB_n (xB_n (xB_l ⟨_, zs_iald em116_24, ag_iald⟩) (xB_l ⟨_, zs_icmpge em116_25 (t := 32) (by decide), as_icmp⟩)) (xB_n (xB_l ⟨_, zs_iconst (v := 1) em116_28 (by decide +kernel), as_const (by decide +kernel)⟩) (xB_n (xB_l ⟨_, zs_goto em116_29 (t := 33) (by decide), as_goto⟩) (xB_l ⟨_, zs_iconst (v := 0) em116_32 (by decide +kernel), as_const (by decide +kernel)⟩))))))
set_option maxRecDepth 100000 in
set_option maxHeartbeats 4000000 in
theorem zM_123 : zOKa 123 zc_123 := z_auto (cuts := []) (rets := [(33, 2)]) (fuel := 1000) rfl rfl (by decide) (xrt_ok (xR_c (Or.inr (Or.inl ⟨rfl, em116_33, rfl⟩)) (xR_n))) (fun _ _ H _ hd => zTo_123 H hd) (by decide +kernel)
theorem em117_0 : decode prog_14_method_79_code 0 = .ok (.aload_n 0, 1) := by decide +kernel
theorem em117_1 : decode prog_14_method_79_code 1 = .ok (.iload_n 1, 1) := by decide +kernel
theorem em117_2 : decode prog_14_method_79_code 2 = .ok (.invokevirtual 405, 3) := by decide +kernel
theorem em117_5 : decode prog_14_method_79_code 5 = .ok (.ifCond .eq 27, 3) := by decide +kernel
theorem em117_8 : decode prog_14_method_79_code 8 = .ok (.aload_n 0, 1) := by decide +kernel
theorem em117_9 : decode prog_14_method_79_code 9 = .ok (.iload_n 2, 1) := by decide +kernel
theorem em117_10 : decode prog_14_method_79_code 10 = .ok (.invokevirtual 405, 3) := by decide +kernel
theorem em117_13 : decode prog_14_method_79_code 13 = .ok (.ifCond .eq 19, 3) := by decide +kernel
theorem em117_16 : decode prog_14_method_79_code 16 = .ok (.iload_n 1, 1) := by decide +kernel
theorem em117_17 : decode prog_14_method_79_code 17 = .ok (.iload_n 2, 1) := by decide +kernel
theorem em117_18 : decode prog_14_method_79_code 18 = .ok (.if_icmp .eq 14, 3) := by decide +kernel
theorem em117_21 : decode prog_14_method_79_code 21 = .ok (.iload_n 3, 1) := by decide +kernel
theorem em117_22 : decode prog_14_method_79_code 22 = .ok (.invokestatic 408, 3) := by decide +kernel
theorem em117_25 : decode prog_14_method_79_code 25 = .ok (.ifCond .eq 7, 3) := by decide +kernel
theorem em117_28 : decode prog_14_method_79_code 28 = .ok (.iconst 1, 1) := by decide +kernel
theorem em117_29 : decode prog_14_method_79_code 29 = .ok (.goto 4, 3) := by decide +kernel
theorem em117_32 : decode prog_14_method_79_code 32 = .ok (.iconst 0, 1) := by decide +kernel
theorem em117_33 : decode prog_14_method_79_code 33 = .ok (.ireturn, 1) := by decide +kernel
/-! CapitalCaseModel.areTwo:(III)Z -/
noncomputable def zTr_124 : Nat → Option aF := bn 16 (bn 8 (bn 2 (bn 1 (bl 0 (a_aload 0 1)) (bl 1 (a_iload 1 2))) (bn 5 (bl 2 (a_invV zG0 zprot (true, false) zc_177 (zbd 177) (2, 0, 0) 12 2 5)) (bl 5 (a_if 0 32 8)))) (bn 10 (bn 9 (bl 8 (a_aload 0 9)) (bl 9 (a_iload 2 10))) (bn 13 (bl 10 (a_invV zG0 zprot (true, false) zc_177 (zbd 177) (2, 0, 0) 12 2 13)) (bl 13 (a_if 0 32 16))))) (bn 22 (bn 18 (bn 17 (bl 16 (a_iload 1 17)) (bl 17 (a_iload 2 18))) (bn 21 (bl 18 (a_icmp 0 32 21)) (bl 21 (a_iload 3 22)))) (bn 28 (bn 25 (bl 22 (a_inv zG0 zprot (true, false) zc_180 (zbd 180) (2, 0, 0) 1 25)) (bl 25 (a_if 0 32 28))) (bn 29 (bl 28 (a_const 1 29)) (bn 32 (bl 29 (a_goto 33)) (bl 32 (a_const 0 33))))))
set_option maxRecDepth 100000 in
set_option maxHeartbeats 4000000 in
theorem zTo_124 {pre : zPre} {post : zPost} (H : zTieC pre post) {d : Nat × Nat × Nat} (hd : zLe (2, 0, 0) d) : aTr zG0 zT0 zInv (true, false) PZ zbd pre post d prog_14_method_79_code "CapitalCaseModel" zTr_124 := (xB_n (xB_n (xB_n (xB_n (xB_l ⟨_, zs_aload_n em117_0, as_aload⟩) (xB_l ⟨_, zs_iload_n em117_1, as_iload⟩)) (xB_n (xB_l ⟨_, zs_invV (T := TX12) em117_2 zl_177 rfl wd_1625 wd_1627 wd_72 ((congrFun xo_12 405).trans rfl) xm_151, ag_invV H zh_177 hd (by decide)⟩) (xB_l ⟨_, zs_ifeq em117_5 (t := 32) (by decide), as_if⟩))) (xB_n (xB_n (xB_l ⟨_, zs_aload_n em117_8, as_aload⟩) (xB_l ⟨_, zs_iload_n em117_9, as_iload⟩)) (xB_n (xB_l ⟨_, zs_invV (T := TX12) em117_10 zl_177 rfl wd_1625 wd_1627 wd_72 ((congrFun xo_12 405).trans rfl) xm_151, ag_invV H zh_177 hd (by decide)⟩) (xB_l ⟨_, zs_ifeq em117_13 (t := 32) (by decide), as_if⟩)))) (xB_n (xB_n (xB_n (xB_l ⟨_, zs_iload_n em117_16, as_iload⟩) (xB_l ⟨_, zs_iload_n em117_17, as_iload⟩)) (xB_n (xB_l ⟨_, zs_icmpeq em117_18 (t := 32) (by decide), as_icmp⟩) (xB_l ⟨_, zs_iload_n em117_21, as_iload⟩))) (xB_n (xB_n (xB_l ⟨_, zs_invS em117_22 zl_180 wd_1632 wd_1633 ((congrFun xo_12 408).trans rfl) xm_154, ag_inv H zh_180 hd (by decide)⟩) (xB_l ⟨_, zs_ifeq em117_25 (t := 32) (by decide), as_if⟩)) (xB_n (xB_l ⟨_, zs_iconst (v := 1) em117_28 (by decide +kernel), as_const (by decide +kernel)⟩) (xB_n (xB_l ⟨_, zs_goto em117_29 (t := 33) (by decide), as_goto⟩) (xB_l ⟨_, zs_iconst (v := 0) em117_32 (by decide +kernel), as_const (by decide +kernel)⟩))))))
set_option maxRecDepth 100000 in
set_option maxHeartbeats 4000000 in
theorem zM_124 : zOKa 124 zc_124 := z_auto (cuts := []) (rets := [(33, 2)]) (fuel := 1000) rfl rfl (by decide) (xrt_ok (xR_c (Or.inr (Or.inl ⟨rfl, em117_33, rfl⟩)) (xR_n))) (fun _ _ H _ hd => zTo_124 H hd) (by decide +kernel)
theorem em118_0 : decode prog_14_method_110_code 0 = .ok (.iload_n 1, 1) := by decide +kernel
theorem em118_1 : decode prog_14_method_110_code 1 = .ok (.iconst 0, 1) := by decide +kernel
theorem em118_2 : decode prog_14_method_110_code 2 = .ok (.aload_n 0, 1) := by decide +kernel
theorem em118_3 : decode prog_14_method_110_code 3 = .ok (.getfield 251, 3) := by decide +kernel
theorem em118_6 : decode prog_14_method_110_code 6 = .ok (.invokestatic 324, 3) := by decide +kernel
theorem em118_9 : decode prog_14_method_110_code 9 = .ok (.ifCond .eq 14, 3) := by decide +kernel
theorem em118_12 : decode prog_14_method_110_code 12 = .ok (.iload_n 2, 1) := by decide +kernel
theorem em118_13 : decode prog_14_method_110_code 13 = .ok (.iconst 0, 1) := by decide +kernel
theorem em118_14 : decode prog_14_method_110_code 14 = .ok (.sipush 999, 3) := by decide +kernel
theorem em118_17 : decode prog_14_method_110_code 17 = .ok (.invokestatic 324, 3) := by decide +kernel
theorem em118_20 : decode prog_14_method_110_code 20 = .ok (.ifCond .ne 5, 3) := by decide +kernel
theorem em118_23 : decode prog_14_method_110_code 23 = .ok (.iconst (-1), 1) := by decide +kernel
theorem em118_24 : decode prog_14_method_110_code 24 = .ok (.ireturn, 1) := by decide +kernel
theorem em118_25 : decode prog_14_method_110_code 25 = .ok (.aload_n 0, 1) := by decide +kernel
theorem em118_26 : decode prog_14_method_110_code 26 = .ok (.iload_n 1, 1) := by decide +kernel
theorem em118_27 : decode prog_14_method_110_code 27 = .ok (.invokevirtual 467, 3) := by decide +kernel
theorem em118_30 : decode prog_14_method_110_code 30 = .ok (.istore_n 3, 1) := by decide +kernel
theorem em118_31 : decode prog_14_method_110_code 31 = .ok (.bipush (-2), 2) := by decide +kernel
theorem em118_33 : decode prog_14_method_110_code 33 = .ok (.istore 4, 2) := by decide +kernel
theorem em118_35 : decode prog_14_method_110_code 35 = .ok (.iconst 0, 1) := by decide +kernel
theorem em118_36 : decode prog_14_method_110_code 36 = .ok (.istore 5, 2) := by decide +kernel
theorem em118_38 : decode prog_14_method_110_code 38 = .ok (.iconst 0, 1) := by decide +kernel
theorem em118_39 : decode prog_14_method_110_code 39 = .ok (.istore 6, 2) := by decide +kernel
theorem em118_41 : decode prog_14_method_110_code 41 = .ok (.iload 6, 2) := by decide +kernel
theorem em118_43 : decode prog_14_method_110_code 43 = .ok (.bipush 8, 2) := by decide +kernel
theorem em118_45 : decode prog_14_method_110_code 45 = .ok (.if_icmp .ge 121, 3) := by decide +kernel
theorem em118_48 : decode prog_14_method_110_code 48 = .ok (.iload_n 3, 1) := by decide +kernel
theorem em118_49 : decode prog_14_method_110_code 49 = .ok (.ifCond .eq 117, 3) := by decide +kernel
theorem em118_52 : decode prog_14_method_110_code 52 = .ok (.iconst 0, 1) := by decide +kernel
theorem em118_53 : decode prog_14_method_110_code 53 = .ok (.istore 7, 2) := by decide +kernel
theorem em118_55 : decode prog_14_method_110_code 55 = .ok (.iconst 0, 1) := by decide +kernel
theorem em118_56 : decode prog_14_method_110_code 56 = .ok (.istore 8, 2) := by decide +kernel
theorem em118_58 : decode prog_14_method_110_code 58 = .ok (.iload 8, 2) := by decide +kernel
theorem em118_60 : decode prog_14_method_110_code 60 = .ok (.aload_n 0, 1) := by decide +kernel
theorem em118_61 : decode prog_14_method_110_code 61 = .ok (.getfield 43, 3) := by decide +kernel
theorem em118_64 : decode prog_14_method_110_code 64 = .ok (.aload_n 0, 1) := by decide +kernel
theorem em118_65 : decode prog_14_method_110_code 65 = .ok (.getfield 230, 3) := by decide +kernel
theorem em118_68 : decode prog_14_method_110_code 68 = .ok (.iaload, 1) := by decide +kernel
theorem em118_69 : decode prog_14_method_110_code 69 = .ok (.if_icmp .ge 42, 3) := by decide +kernel
theorem em118_72 : decode prog_14_method_110_code 72 = .ok (.iload_n 3, 1) := by decide +kernel
theorem em118_73 : decode prog_14_method_110_code 73 = .ok (.iload 8, 2) := by decide +kernel
theorem em118_75 : decode prog_14_method_110_code 75 = .ok (.ishr, 1) := by decide +kernel
theorem em118_76 : decode prog_14_method_110_code 76 = .ok (.iconst 1, 1) := by decide +kernel
theorem em118_77 : decode prog_14_method_110_code 77 = .ok (.iand, 1) := by decide +kernel
theorem em118_78 : decode prog_14_method_110_code 78 = .ok (.iconst 1, 1) := by decide +kernel
theorem em118_79 : decode prog_14_method_110_code 79 = .ok (.if_icmp .ne 26, 3) := by decide +kernel
theorem em118_82 : decode prog_14_method_110_code 82 = .ok (.aload_n 0, 1) := by decide +kernel
theorem em118_83 : decode prog_14_method_110_code 83 = .ok (.getfield 113, 3) := by decide +kernel
theorem em118_86 : decode prog_14_method_110_code 86 = .ok (.bipush 80, 2) := by decide +kernel
theorem em118_88 : decode prog_14_method_110_code 88 = .ok (.bipush 8, 2) := by decide +kernel
theorem em118_90 : decode prog_14_method_110_code 90 = .ok (.iload 8, 2) := by decide +kernel
theorem em118_92 : decode prog_14_method_110_code 92 = .ok (.imul, 1) := by decide +kernel
theorem em118_93 : decode prog_14_method_110_code 93 = .ok (.iadd, 1) := by decide +kernel
theorem em118_94 : decode prog_14_method_110_code 94 = .ok (.iload 6, 2) := by decide +kernel
theorem em118_96 : decode prog_14_method_110_code 96 = .ok (.iadd, 1) := by decide +kernel
theorem em118_97 : decode prog_14_method_110_code 97 = .ok (.iaload, 1) := by decide +kernel
theorem em118_98 : decode prog_14_method_110_code 98 = .ok (.iload_n 2, 1) := by decide +kernel
theorem em118_99 : decode prog_14_method_110_code 99 = .ok (.if_icmp .lt 6, 3) := by decide +kernel
theorem em118_102 : decode prog_14_method_110_code 102 = .ok (.iinc 7 1, 3) := by decide +kernel
theorem em118_105 : decode prog_14_method_110_code 105 = .ok (.iinc 8 1, 3) := by decide +kernel
theorem em118_108 : decode prog_14_method_110_code 108 = .ok (.goto (-50), 3) := by decide +kernel
theorem em118_111 : decode prog_14_method_110_code 111 = .ok (.iload 7, 2) := by decide +kernel
theorem em118_113 : decode prog_14_method_110_code 113 = .ok (.iload_n 3, 1) := by decide +kernel
theorem em118_114 : decode prog_14_method_110_code 114 = .ok (.invokestatic 470, 3) := by decide +kernel
theorem em118_117 : decode prog_14_method_110_code 117 = .ok (.iload 7, 2) := by decide +kernel
theorem em118_119 : decode prog_14_method_110_code 119 = .ok (.isub, 1) := by decide +kernel
theorem em118_120 : decode prog_14_method_110_code 120 = .ok (.if_icmp .le 8, 3) := by decide +kernel
theorem em118_123 : decode prog_14_method_110_code 123 = .ok (.iload 7, 2) := by decide +kernel
theorem em118_125 : decode prog_14_method_110_code 125 = .ok (.goto 10, 3) := by decide +kernel
theorem em118_128 : decode prog_14_method_110_code 128 = .ok (.iload_n 3, 1) := by decide +kernel
theorem em118_129 : decode prog_14_method_110_code 129 = .ok (.invokestatic 470, 3) := by decide +kernel
theorem em118_132 : decode prog_14_method_110_code 132 = .ok (.iload 7, 2) := by decide +kernel
theorem em118_134 : decode prog_14_method_110_code 134 = .ok (.isub, 1) := by decide +kernel
theorem em118_135 : decode prog_14_method_110_code 135 = .ok (.istore 8, 2) := by decide +kernel
theorem em118_137 : decode prog_14_method_110_code 137 = .ok (.iload 4, 2) := by decide +kernel
theorem em118_139 : decode prog_14_method_110_code 139 = .ok (.ifCond .lt 13, 3) := by decide +kernel
theorem em118_142 : decode prog_14_method_110_code 142 = .ok (.iload 8, 2) := by decide +kernel
theorem em118_144 : decode prog_14_method_110_code 144 = .ok (.iload 5, 2) := by decide +kernel
theorem em118_146 : decode prog_14_method_110_code 146 = .ok (.if_icmp .lt 6, 3) := by decide +kernel
theorem em118_149 : decode prog_14_method_110_code 149 = .ok (.goto 11, 3) := by decide +kernel
theorem em118_152 : decode prog_14_method_110_code 152 = .ok (.iload 6, 2) := by decide +kernel
theorem em118_154 : decode prog_14_method_110_code 154 = .ok (.istore 4, 2) := by decide +kernel
theorem em118_156 : decode prog_14_method_110_code 156 = .ok (.iload 8, 2) := by decide +kernel
theorem em118_158 : decode prog_14_method_110_code 158 = .ok (.istore 5, 2) := by decide +kernel
theorem em118_160 : decode prog_14_method_110_code 160 = .ok (.iinc 6 1, 3) := by decide +kernel
theorem em118_163 : decode prog_14_method_110_code 163 = .ok (.goto (-122), 3) := by decide +kernel
theorem em118_166 : decode prog_14_method_110_code 166 = .ok (.iload 4, 2) := by decide +kernel
theorem em118_168 : decode prog_14_method_110_code 168 = .ok (.ireturn, 1) := by decide +kernel
/-! CapitalCaseModel.ask:(II)I -/
noncomputable def zTr_125 : Nat → Option aF := bn 78 (bn 39 (bn 20 (bn 9 (bn 2 (bn 1 (bl 0 (a_iload 1 1)) (bl 1 (a_const 0 2))) (bn 3 (bl 2 (a_aload 0 3)) (bn 6 (bl 3 (a_getf zG0 zT0 12 64 6)) (bl 6 (a_inv zG0 zprot (true, false) zc_156 (zbd 156) (1, 0, 0) 3 9))))) (bn 13 (bn 12 (bl 9 (a_if 0 23 12)) (bl 12 (a_iload 2 13))) (bn 14 (bl 13 (a_const 0 14)) (bn 17 (bl 14 (a_const 999 17)) (bl 17 (a_inv zG0 zprot (true, false) zc_155 (zbd 155) (1, 0, 0) 3 20)))))) (bn 30 (bn 25 (bn 23 (bl 20 (a_if 1 25 23)) (bl 23 (a_const (-1) 24))) (bn 26 (bl 25 (a_aload 0 26)) (bn 27 (bl 26 (a_iload 1 27)) (bl 27 (a_invV zG0 zprot (true, false) zc_228 (zbd 228) (1, 0, 0) 12 2 30))))) (bn 35 (bn 31 (bl 30 (a_istore 3 31)) (bn 33 (bl 31 (a_const (-2) 33)) (bl 33 (a_istore 4 35)))) (bn 36 (bl 35 (a_const 0 36)) (bn 38 (bl 36 (a_istore 5 38)) (bl 38 (a_const 0 39))))))) (bn 60 (bn 49 (bn 43 (bn 41 (bl 39 (a_istore 6 41)) (bl 41 (a_iload 6 43))) (bn 45 (bl 43 (a_const 8 45)) (bn 48 (bl 45 (a_icmp 3 166 48)) (bl 48 (a_iload 3 49))))) (bn 55 (bn 52 (bl 49 (a_if 0 166 52)) (bn 53 (bl 52 (a_const 0 53)) (bl 53 (a_istore 7 55)))) (bn 56 (bl 55 (a_const 0 56)) (bn 58 (bl 56 (a_istore 8 58)) (bl 58 (a_iload 8 60)))))) (bn 69 (bn 64 (bn 61 (bl 60 (a_aload 0 61)) (bl 61 (a_getf zG0 zT0 12 3 64))) (bn 65 (bl 64 (a_aload 0 65)) (bn 68 (bl 65 (a_getf zG0 zT0 12 2 68)) (bl 68 (a_ald zG0 zT0 (true, false) ts0 69))))) (bn 75 (bn 72 (bl 69 (a_icmp 3 111 72)) (bn 73 (bl 72 (a_iload 3 73)) (bl 73 (a_iload 8 75)))) (bn 76 (bl 75 (a_bin fany 76)) (bn 77 (bl 76 (a_const 1 77)) (bl 77 (a_bin fand 78)))))))) (bn 119 (bn 96 (bn 88 (bn 82 (bn 79 (bl 78 (a_const 1 79)) (bl 79 (a_icmp 1 105 82))) (bn 83 (bl 82 (a_aload 0 83)) (bn 86 (bl 83 (a_getf zG0 zT0 12 1 86)) (bl 86 (a_const 80 88))))) (bn 92 (bn 90 (bl 88 (a_const 8 90)) (bl 90 (a_iload 8 92))) (bn 93 (bl 92 (a_bin fmul 93)) (bn 94 (bl 93 (a_bin fadd 94)) (bl 94 (a_iload 6 96)))))) (bn 105 (bn 98 (bn 97 (bl 96 (a_bin fadd 97)) (bl 97 (a_ald zG0 zT0 (true, false) ts0 98))) (bn 99 (bl 98 (a_iload 2 99)) (bn 102 (bl 99 (a_icmp 2 105 102)) (bl 102 (a_iinc 7 1 105))))) (bn 113 (bn 108 (bl 105 (a_iinc 8 1 108)) (bn 111 (bl 108 (a_goto 58)) (bl 111 (a_iload 7 113)))) (bn 114 (bl 113 (a_iload 3 114)) (bn 117 (bl 114 (a_inv zG0 zprot (true, false) zc_130 (zbd 130) (1, 0, 0) 1 117)) (bl 117 (a_iload 7 119))))))) (bn 142 (bn 129 (bn 123 (bn 120 (bl 119 (a_bin fsub 120)) (bl 120 (a_icmp 5 128 123))) (bn 125 (bl 123 (a_iload 7 125)) (bn 128 (bl 125 (a_goto 135)) (bl 128 (a_iload 3 129))))) (bn 135 (bn 132 (bl 129 (a_inv zG0 zprot (true, false) zc_130 (zbd 130) (1, 0, 0) 1 132)) (bn 134 (bl 132 (a_iload 7 134)) (bl 134 (a_bin fsub 135)))) (bn 137 (bl 135 (a_istore 8 137)) (bn 139 (bl 137 (a_iload 4 139)) (bl 139 (a_if 2 152 142)))))) (bn 154 (bn 146 (bn 144 (bl 142 (a_iload 8 144)) (bl 144 (a_iload 5 146))) (bn 149 (bl 146 (a_icmp 2 152 149)) (bn 152 (bl 149 (a_goto 160)) (bl 152 (a_iload 6 154))))) (bn 160 (bn 156 (bl 154 (a_istore 4 156)) (bn 158 (bl 156 (a_iload 8 158)) (bl 158 (a_istore 5 160)))) (bn 163 (bl 160 (a_iinc 6 1 163)) (bn 166 (bl 163 (a_goto 41)) (bl 166 (a_iload 4 168))))))))
set_option maxRecDepth 100000 in
set_option maxHeartbeats 4000000 in
theorem zTo_125 {pre : zPre} {post : zPost} (H : zTieC pre post) {d : Nat × Nat × Nat} (hd : zLe (1, 0, 0) d) : aTr zG0 zT0 zInv (true, false) PZ zbd pre post d prog_14_method_110_code "CapitalCaseModel" zTr_125 := (xB_n (xB_n (xB_n (xB_n (xB_n (xB_n (xB_l ⟨_, zs_iload_n em118_0, as_iload⟩) (xB_l ⟨_, zs_iconst (v := 0) em118_1 (by decide +kernel), as_const (by decide +kernel)⟩)) (xB_n (xB_l ⟨_, zs_aload_n em118_2, as_aload⟩) (xB_n (xB_l ⟨_, zs_getf (T := TX12) (M := 70) (ci := 12) (j := 64) em118_3 rfl inX12 (by decide) wd_1345 ((congrFun xo_12 251).trans rfl), as_getf zTie⟩) (xB_l ⟨_, zs_invS em118_6 zl_156 wd_1629 wd_1630 ((congrFun xo_12 324).trans rfl) xm_148, ag_inv H zh_156 hd (by decide)⟩)))) (xB_n (xB_n (xB_l ⟨_, zs_ifeq em118_9 (t := 23) (by decide), as_if⟩) (xB_l ⟨_, zs_iload_n em118_12, as_iload⟩)) (xB_n (xB_l ⟨_, zs_iconst (v := 0) em118_13 (by decide +kernel), as_const (by decide +kernel)⟩) (xB_n (xB_l ⟨_, zs_sipush (v := 999) em118_14 (by decide +kernel), as_const (by decide +kernel)⟩) (xB_l ⟨_, zs_invS em118_17 zl_155 wd_1629 wd_1630 ((congrFun xo_12 324).trans rfl) xm_148, ag_inv H zh_155 hd (by decide)⟩))))) (xB_n (xB_n (xB_n (xB_l ⟨_, zs_ifne em118_20 (t := 25) (by decide), as_if⟩) (xB_l ⟨_, zs_iconst (v := (-1)) em118_23 (by decide +kernel), as_const (by decide +kernel)⟩)) (xB_n (xB_l ⟨_, zs_aload_n em118_25, as_aload⟩) (xB_n (xB_l ⟨_, zs_iload_n em118_26, as_iload⟩) (xB_l ⟨_, zs_invV (T := TX12) em118_27 zl_228 rfl wd_1886 wd_1888 wd_107 ((congrFun xo_12 467).trans rfl) xm_201, ag_invV H zh_228 hd (by decide)⟩)))) (xB_n (xB_n (xB_l ⟨_, zs_istore_n em118_30, as_istore⟩) (xB_n (xB_l ⟨_, zs_bipush (v := (-2)) em118_31 (by decide +kernel), as_const (by decide +kernel)⟩) (xB_l ⟨_, zs_istore em118_33, as_istore⟩))) (xB_n (xB_l ⟨_, zs_iconst (v := 0) em118_35 (by decide +kernel), as_const (by decide +kernel)⟩) (xB_n (xB_l ⟨_, zs_istore em118_36, as_istore⟩) (xB_l ⟨_, zs_iconst (v := 0) em118_38 (by decide +kernel), as_const (by decide +kernel)⟩)))))) (xB_n (xB_n (xB_n (xB_n (xB_l ⟨_, zs_istore em118_39, as_istore⟩) (xB_l ⟨_, zs_iload em118_41, as_iload⟩)) (xB_n (xB_l ⟨_, zs_bipush (v := 8) em118_43 (by decide +kernel), as_const (by decide +kernel)⟩) (xB_n (xB_l ⟨_, zs_icmpge em118_45 (t := 166) (by decide), as_icmp⟩) (xB_l ⟨_, zs_iload_n em118_48, as_iload⟩)))) (xB_n (xB_n (xB_l ⟨_, zs_ifeq em118_49 (t := 166) (by decide), as_if⟩) (xB_n (xB_l ⟨_, zs_iconst (v := 0) em118_52 (by decide +kernel), as_const (by decide +kernel)⟩) (xB_l ⟨_, zs_istore em118_53, as_istore⟩))) (xB_n (xB_l ⟨_, zs_iconst (v := 0) em118_55 (by decide +kernel), as_const (by decide +kernel)⟩) (xB_n (xB_l ⟨_, zs_istore em118_56, as_istore⟩) (xB_l ⟨_, zs_iload em118_58, as_iload⟩))))) (xB_n (xB_n (xB_n (xB_l ⟨_, zs_aload_n em118_60, as_aload⟩) (xB_l ⟨_, zs_getf (T := TX12) (M := 70) (ci := 12) (j := 3) em118_61 rfl inX12 (by decide) wd_1303 ((congrFun xo_12 43).trans rfl), as_getf zTie⟩)) (xB_n (xB_l ⟨_, zs_aload_n em118_64, as_aload⟩) (xB_n (xB_l ⟨_, zs_getf (T := TX12) (M := 70) (ci := 12) (j := 2) em118_65 rfl inX12 (by decide) wd_1299 ((congrFun xo_12 230).trans rfl), as_getf zTie⟩) (xB_l ⟨_, zs_iald em118_68, ag_iald⟩)))) (xB_n (xB_n (xB_l ⟨_, zs_icmpge em118_69 (t := 111) (by decide), as_icmp⟩) (xB_n (xB_l ⟨_, zs_iload_n em118_72, as_iload⟩) (xB_l ⟨_, zs_iload em118_73, as_iload⟩))) (xB_n (xB_l ⟨_, zs_ishr em118_75, as_bin fany_ok⟩) (xB_n (xB_l ⟨_, zs_iconst (v := 1) em118_76 (by decide +kernel), as_const (by decide +kernel)⟩) (xB_l ⟨_, zs_iand em118_77, as_bin fand_ok⟩))))))) (xB_n (xB_n (xB_n (xB_n (xB_n (xB_l ⟨_, zs_iconst (v := 1) em118_78 (by decide +kernel), as_const (by decide +kernel)⟩) (xB_l ⟨_, zs_icmpne em118_79 (t := 105) (by decide), as_icmp⟩)) (xB_n (xB_l ⟨_, zs_aload_n em118_82, as_aload⟩) (xB_n (xB_l ⟨_, zs_getf (T := TX12) (M := 70) (ci := 12) (j := 1) em118_83 rfl inX12 (by decide) wd_1331 ((congrFun xo_12 113).trans rfl), as_getf zTie⟩) (xB_l ⟨_, zs_bipush (v := 80) em118_86 (by decide +kernel), as_const (by decide +kernel)⟩)))) (xB_n (xB_n (xB_l ⟨_, zs_bipush (v := 8) em118_88 (by decide +kernel), as_const (by decide +kernel)⟩) (xB_l ⟨_, zs_iload em118_90, as_iload⟩)) (xB_n (xB_l ⟨_, zs_imul em118_92, as_bin fmul_ok⟩) (xB_n (xB_l ⟨_, zs_iadd em118_93, as_bin fadd_ok⟩) (xB_l ⟨_, zs_iload em118_94, as_iload⟩))))) (xB_n (xB_n (xB_n (xB_l ⟨_, zs_iadd em118_96, as_bin fadd_ok⟩) (xB_l ⟨_, zs_iald em118_97, ag_iald⟩)) (xB_n (xB_l ⟨_, zs_iload_n em118_98, as_iload⟩) (xB_n (xB_l ⟨_, zs_icmplt em118_99 (t := 105) (by decide), as_icmp⟩) (xB_l ⟨_, zs_iinc (k := 1) em118_102 (by decide +kernel), as_iinc (by decide +kernel)⟩)))) (xB_n (xB_n (xB_l ⟨_, zs_iinc (k := 1) em118_105 (by decide +kernel), as_iinc (by decide +kernel)⟩) (xB_n (xB_l ⟨_, zs_goto em118_108 (t := 58) (by decide), as_goto⟩) (xB_l ⟨_, zs_iload em118_111, as_iload⟩))) (xB_n (xB_l ⟨_, zs_iload_n em118_113, as_iload⟩) (xB_n (xB_l ⟨_, zs_invS em118_114 zl_130 wd_1890 wd_1891 ((congrFun xo_12 470).trans rfl) xm_123, ag_inv H zh_130 hd (by decide)⟩) (xB_l ⟨_, zs_iload em118_117, as_iload⟩)))))) (xB_n (xB_n (xB_n (xB_n (xB_l ⟨_, zs_isub em118_119, as_bin fsub_ok⟩) (xB_l ⟨_, zs_icmple em118_120 (t := 128) (by decide), as_icmp⟩)) (xB_n (xB_l ⟨_, zs_iload em118_123, as_iload⟩) (xB_n (xB_l ⟨_, zs_goto em118_125 (t := 135) (by decide), as_goto⟩) (xB_l ⟨_, zs_iload_n em118_128, as_iload⟩)))) (xB_n (xB_n (xB_l ⟨_, zs_invS em118_129 zl_130 wd_1890 wd_1891 ((congrFun xo_12 470).trans rfl) xm_123, ag_inv H zh_130 hd (by decide)⟩) (xB_n (xB_l ⟨_, zs_iload em118_132, as_iload⟩) (xB_l ⟨_, zs_isub em118_134, as_bin fsub_ok⟩))) (xB_n (xB_l ⟨_, zs_istore em118_135, as_istore⟩) (xB_n (xB_l ⟨_, zs_iload em118_137, as_iload⟩) (xB_l ⟨_, zs_iflt em118_139 (t := 152) (by decide), as_if⟩))))) (xB_n (xB_n (xB_n (xB_l ⟨_, zs_iload em118_142, as_iload⟩) (xB_l ⟨_, zs_iload em118_144, as_iload⟩)) (xB_n (xB_l ⟨_, zs_icmplt em118_146 (t := 152) (by decide), as_icmp⟩) (xB_n (xB_l ⟨_, zs_goto em118_149 (t := 160) (by decide), as_goto⟩) (xB_l ⟨_, zs_iload em118_152, as_iload⟩)))) (xB_n (xB_n (xB_l ⟨_, zs_istore em118_154, as_istore⟩) (xB_n (xB_l ⟨_, zs_iload em118_156, as_iload⟩) (xB_l ⟨_, zs_istore em118_158, as_istore⟩))) (xB_n (xB_l ⟨_, zs_iinc (k := 1) em118_160 (by decide +kernel), as_iinc (by decide +kernel)⟩) (xB_n (xB_l ⟨_, zs_goto em118_163 (t := 41) (by decide), as_goto⟩) (xB_l ⟨_, zs_iload em118_166, as_iload⟩))))))))
set_option maxRecDepth 100000 in
set_option maxHeartbeats 4000000 in
theorem zM_125 : zOKa 125 zc_125 := z_auto (cuts := [(41, ([(0, 0), (0, 20), (0, 999), (0, 20), (0, 1), ((-2147483648), 2147483647), ((-2), 7), ((-2147483648), 2147483647), (0, 8)], [], [some (.inr (.inl (0, 75))), some (.inl (1, 0)), some (.inl (2, 0)), some (.inl (5, 0)), some (.inl (6, 0)), some (.inl (7, 0)), some (.inl (8, 0)), none, none], [], [(21, 3, 0), (22, 4, 0)], (0, 0)), [(0, 3), (0, 4), (0, 5), (0, 6)], 62, [0, 0, 0, 0, 0, 0, 0, 0, (-7)]), (58, ([(0, 0), (0, 20), (0, 999), (0, 20), (0, 1), ((-2147483648), 2147483647), ((-2), 7), ((-2147483648), 2147483647), (0, 7), ((-2147483648), 2147483647), (0, 5)], [], [some (.inr (.inl (0, 75))), some (.inl (1, 0)), some (.inl (2, 0)), some (.inl (5, 0)), some (.inl (6, 0)), some (.inl (7, 0)), some (.inl (8, 0)), some (.inl (9, 0)), some (.inl (10, 0))], [], [(21, 3, 0), (22, 4, 0)], (0, 0)), [(0, 3), (0, 4), (0, 5), (0, 6), (0, 7), (0, 8)], 61, [0, 0, 0, 0, 0, 0, 0, 0, (-7), 0, (-1)])]) (rets := [(24, 1), (168, 1)]) (fuel := 1000) rfl rfl (by decide) (xrt_ok (xR_c (Or.inl ⟨rfl, em118_24, rfl⟩) (xR_c (Or.inl ⟨rfl, em118_168, rfl⟩) (xR_n)))) (fun _ _ H _ hd => zTo_125 H hd) (by decide +kernel)
theorem em120_0 : decode prog_14_method_97_code 0 = .ok (.iload_n 1, 1) := by decide +kernel
theorem em120_1 : decode prog_14_method_97_code 1 = .ok (.iconst 0, 1) := by decide +kernel
theorem em120_2 : decode prog_14_method_97_code 2 = .ok (.iconst 1, 1) := by decide +kernel
theorem em120_3 : decode prog_14_method_97_code 3 = .ok (.invokestatic 324, 3) := by decide +kernel
theorem em120_6 : decode prog_14_method_97_code 6 = .ok (.ifCond .ne 5, 3) := by decide +kernel
theorem em120_9 : decode prog_14_method_97_code 9 = .ok (.iconst (-1), 1) := by decide +kernel
theorem em120_10 : decode prog_14_method_97_code 10 = .ok (.ireturn, 1) := by decide +kernel
theorem em120_11 : decode prog_14_method_97_code 11 = .ok (.aload_n 0, 1) := by decide +kernel
theorem em120_12 : decode prog_14_method_97_code 12 = .ok (.invokevirtual 411, 3) := by decide +kernel
theorem em120_15 : decode prog_14_method_97_code 15 = .ok (.iconst 0, 1) := by decide +kernel
theorem em120_16 : decode prog_14_method_97_code 16 = .ok (.istore_n 2, 1) := by decide +kernel
theorem em120_17 : decode prog_14_method_97_code 17 = .ok (.bipush (-2), 2) := by decide +kernel
theorem em120_19 : decode prog_14_method_97_code 19 = .ok (.istore_n 3, 1) := by decide +kernel
theorem em120_20 : decode prog_14_method_97_code 20 = .ok (.iconst 0, 1) := by decide +kernel
theorem em120_21 : decode prog_14_method_97_code 21 = .ok (.istore 4, 2) := by decide +kernel
theorem em120_23 : decode prog_14_method_97_code 23 = .ok (.iload 4, 2) := by decide +kernel
theorem em120_25 : decode prog_14_method_97_code 25 = .ok (.aload_n 0, 1) := by decide +kernel
theorem em120_26 : decode prog_14_method_97_code 26 = .ok (.getfield 43, 3) := by decide +kernel
theorem em120_29 : decode prog_14_method_97_code 29 = .ok (.aload_n 0, 1) := by decide +kernel
theorem em120_30 : decode prog_14_method_97_code 30 = .ok (.getfield 230, 3) := by decide +kernel
theorem em120_33 : decode prog_14_method_97_code 33 = .ok (.iaload, 1) := by decide +kernel
theorem em120_34 : decode prog_14_method_97_code 34 = .ok (.if_icmp .ge 110, 3) := by decide +kernel
theorem em120_37 : decode prog_14_method_97_code 37 = .ok (.iload 4, 2) := by decide +kernel
theorem em120_39 : decode prog_14_method_97_code 39 = .ok (.iconst 1, 1) := by decide +kernel
theorem em120_40 : decode prog_14_method_97_code 40 = .ok (.iadd, 1) := by decide +kernel
theorem em120_41 : decode prog_14_method_97_code 41 = .ok (.istore 5, 2) := by decide +kernel
theorem em120_43 : decode prog_14_method_97_code 43 = .ok (.iload 5, 2) := by decide +kernel
theorem em120_45 : decode prog_14_method_97_code 45 = .ok (.aload_n 0, 1) := by decide +kernel
theorem em120_46 : decode prog_14_method_97_code 46 = .ok (.getfield 43, 3) := by decide +kernel
theorem em120_49 : decode prog_14_method_97_code 49 = .ok (.aload_n 0, 1) := by decide +kernel
theorem em120_50 : decode prog_14_method_97_code 50 = .ok (.getfield 230, 3) := by decide +kernel
theorem em120_53 : decode prog_14_method_97_code 53 = .ok (.iaload, 1) := by decide +kernel
theorem em120_54 : decode prog_14_method_97_code 54 = .ok (.if_icmp .ge 84, 3) := by decide +kernel
theorem em120_57 : decode prog_14_method_97_code 57 = .ok (.iconst 0, 1) := by decide +kernel
theorem em120_58 : decode prog_14_method_97_code 58 = .ok (.istore 6, 2) := by decide +kernel
theorem em120_60 : decode prog_14_method_97_code 60 = .ok (.iload 6, 2) := by decide +kernel
theorem em120_62 : decode prog_14_method_97_code 62 = .ok (.bipush 64, 2) := by decide +kernel
theorem em120_64 : decode prog_14_method_97_code 64 = .ok (.if_icmp .ge 68, 3) := by decide +kernel
theorem em120_67 : decode prog_14_method_97_code 67 = .ok (.aload_n 0, 1) := by decide +kernel
theorem em120_68 : decode prog_14_method_97_code 68 = .ok (.iload 4, 2) := by decide +kernel
theorem em120_70 : decode prog_14_method_97_code 70 = .ok (.iload 5, 2) := by decide +kernel
theorem em120_72 : decode prog_14_method_97_code 72 = .ok (.iload 6, 2) := by decide +kernel
theorem em120_74 : decode prog_14_method_97_code 74 = .ok (.bipush 8, 2) := by decide +kernel
theorem em120_76 : decode prog_14_method_97_code 76 = .ok (.idiv, 1) := by decide +kernel
theorem em120_77 : decode prog_14_method_97_code 77 = .ok (.iload 6, 2) := by decide +kernel
theorem em120_79 : decode prog_14_method_97_code 79 = .ok (.bipush 8, 2) := by decide +kernel
theorem em120_81 : decode prog_14_method_97_code 81 = .ok (.irem, 1) := by decide +kernel
theorem em120_82 : decode prog_14_method_97_code 82 = .ok (.invokevirtual 463, 3) := by decide +kernel
theorem em120_85 : decode prog_14_method_97_code 85 = .ok (.ifCond .ne 6, 3) := by decide +kernel
theorem em120_88 : decode prog_14_method_97_code 88 = .ok (.goto 38, 3) := by decide +kernel
theorem em120_91 : decode prog_14_method_97_code 91 = .ok (.iinc 2 1, 3) := by decide +kernel
theorem em120_94 : decode prog_14_method_97_code 94 = .ok (.iload_n 3, 1) := by decide +kernel
theorem em120_95 : decode prog_14_method_97_code 95 = .ok (.ifCond .ge 31, 3) := by decide +kernel
theorem em120_98 : decode prog_14_method_97_code 98 = .ok (.sipush 1000, 3) := by decide +kernel
theorem em120_101 : decode prog_14_method_97_code 101 = .ok (.iload 4, 2) := by decide +kernel
theorem em120_103 : decode prog_14_method_97_code 103 = .ok (.imul, 1) := by decide +kernel
theorem em120_104 : decode prog_14_method_97_code 104 = .ok (.bipush 100, 2) := by decide +kernel
theorem em120_106 : decode prog_14_method_97_code 106 = .ok (.iload 5, 2) := by decide +kernel
theorem em120_108 : decode prog_14_method_97_code 108 = .ok (.imul, 1) := by decide +kernel
theorem em120_109 : decode prog_14_method_97_code 109 = .ok (.iadd, 1) := by decide +kernel
theorem em120_110 : decode prog_14_method_97_code 110 = .ok (.bipush 10, 2) := by decide +kernel
theorem em120_112 : decode prog_14_method_97_code 112 = .ok (.iload 6, 2) := by decide +kernel
theorem em120_114 : decode prog_14_method_97_code 114 = .ok (.bipush 8, 2) := by decide +kernel
theorem em120_116 : decode prog_14_method_97_code 116 = .ok (.idiv, 1) := by decide +kernel
theorem em120_117 : decode prog_14_method_97_code 117 = .ok (.imul, 1) := by decide +kernel
theorem em120_118 : decode prog_14_method_97_code 118 = .ok (.iadd, 1) := by decide +kernel
theorem em120_119 : decode prog_14_method_97_code 119 = .ok (.iload 6, 2) := by decide +kernel
theorem em120_121 : decode prog_14_method_97_code 121 = .ok (.bipush 8, 2) := by decide +kernel
theorem em120_123 : decode prog_14_method_97_code 123 = .ok (.irem, 1) := by decide +kernel
theorem em120_124 : decode prog_14_method_97_code 124 = .ok (.iadd, 1) := by decide +kernel
theorem em120_125 : decode prog_14_method_97_code 125 = .ok (.istore_n 3, 1) := by decide +kernel
theorem em120_126 : decode prog_14_method_97_code 126 = .ok (.iinc 6 1, 3) := by decide +kernel
theorem em120_129 : decode prog_14_method_97_code 129 = .ok (.goto (-69), 3) := by decide +kernel
theorem em120_132 : decode prog_14_method_97_code 132 = .ok (.iinc 5 1, 3) := by decide +kernel
theorem em120_135 : decode prog_14_method_97_code 135 = .ok (.goto (-92), 3) := by decide +kernel
theorem em120_138 : decode prog_14_method_97_code 138 = .ok (.iinc 4 1, 3) := by decide +kernel
theorem em120_141 : decode prog_14_method_97_code 141 = .ok (.goto (-118), 3) := by decide +kernel
theorem em120_144 : decode prog_14_method_97_code 144 = .ok (.iload_n 1, 1) := by decide +kernel
theorem em120_145 : decode prog_14_method_97_code 145 = .ok (.ifCond .ne 7, 3) := by decide +kernel
theorem em120_148 : decode prog_14_method_97_code 148 = .ok (.iload_n 2, 1) := by decide +kernel
theorem em120_149 : decode prog_14_method_97_code 149 = .ok (.goto 4, 3) := by decide +kernel
theorem em120_152 : decode prog_14_method_97_code 152 = .ok (.iload_n 3, 1) := by decide +kernel
theorem em120_153 : decode prog_14_method_97_code 153 = .ok (.ireturn, 1) := by decide +kernel
/-! CapitalCaseModel.bargains:(I)I -/
noncomputable def zTr_127 : Nat → Option aF := bn 72 (bn 34 (bn 17 (bn 9 (bn 2 (bn 1 (bl 0 (a_iload 1 1)) (bl 1 (a_const 0 2))) (bn 3 (bl 2 (a_const 1 3)) (bn 6 (bl 3 (a_inv zG0 zprot (true, false) zc_157 (zbd 157) (3, 0, 0) 3 6)) (bl 6 (a_if 1 11 9))))) (bn 12 (bn 11 (bl 9 (a_const (-1) 10)) (bl 11 (a_aload 0 12))) (bn 15 (bl 12 (a_invV zG0 zprot (true, false) zc_136 (zbd 136) (3, 0, 0) 12 1 15)) (bn 16 (bl 15 (a_const 0 16)) (bl 16 (a_istore 2 17)))))) (bn 25 (bn 20 (bn 19 (bl 17 (a_const (-2) 19)) (bl 19 (a_istore 3 20))) (bn 21 (bl 20 (a_const 0 21)) (bn 23 (bl 21 (a_istore 4 23)) (bl 23 (a_iload 4 25))))) (bn 29 (bn 26 (bl 25 (a_aload 0 26)) (bl 26 (a_getf zG0 zT0 12 3 29))) (bn 30 (bl 29 (a_aload 0 30)) (bn 33 (bl 30 (a_getf zG0 zT0 12 2 33)) (bl 33 (a_ald zG0 zT0 (true, false) ts0 34))))))) (bn 53 (bn 43 (bn 39 (bn 37 (bl 34 (a_icmp 3 144 37)) (bl 37 (a_iload 4 39))) (bn 40 (bl 39 (a_const 1 40)) (bn 41 (bl 40 (a_bin fadd 41)) (bl 41 (a_istore 5 43))))) (bn 46 (bn 45 (bl 43 (a_iload 5 45)) (bl 45 (a_aload 0 46))) (bn 49 (bl 46 (a_getf zG0 zT0 12 3 49)) (bn 50 (bl 49 (a_aload 0 50)) (bl 50 (a_getf zG0 zT0 12 2 53)))))) (bn 62 (bn 57 (bn 54 (bl 53 (a_ald zG0 zT0 (true, false) ts0 54)) (bl 54 (a_icmp 3 138 57))) (bn 58 (bl 57 (a_const 0 58)) (bn 60 (bl 58 (a_istore 6 60)) (bl 60 (a_iload 6 62))))) (bn 67 (bn 64 (bl 62 (a_const 64 64)) (bl 64 (a_icmp 3 132 67))) (bn 68 (bl 67 (a_aload 0 68)) (bn 70 (bl 68 (a_iload 4 70)) (bl 70 (a_iload 5 72)))))))) (bn 112 (bn 94 (bn 81 (bn 76 (bn 74 (bl 72 (a_iload 6 74)) (bl 74 (a_const 8 76))) (bn 77 (bl 76 (a_div fdiv 77)) (bn 79 (bl 77 (a_iload 6 79)) (bl 79 (a_const 8 81))))) (bn 85 (bn 82 (bl 81 (a_div frem 82)) (bl 82 (a_invV zG0 zprot (true, false) zc_176 (zbd 176) (3, 0, 0) 12 5 85))) (bn 88 (bl 85 (a_if 1 91 88)) (bn 91 (bl 88 (a_goto 126)) (bl 91 (a_iinc 2 1 94)))))) (bn 104 (bn 98 (bn 95 (bl 94 (a_iload 3 95)) (bl 95 (a_if 3 126 98))) (bn 101 (bl 98 (a_const 1000 101)) (bn 103 (bl 101 (a_iload 4 103)) (bl 103 (a_bin fmul 104))))) (bn 108 (bn 106 (bl 104 (a_const 100 106)) (bl 106 (a_iload 5 108))) (bn 109 (bl 108 (a_bin fmul 109)) (bn 110 (bl 109 (a_bin fadd 110)) (bl 110 (a_const 10 112))))))) (bn 126 (bn 119 (bn 116 (bn 114 (bl 112 (a_iload 6 114)) (bl 114 (a_const 8 116))) (bn 117 (bl 116 (a_div fdiv 117)) (bn 118 (bl 117 (a_bin fmul 118)) (bl 118 (a_bin fadd 119))))) (bn 123 (bn 121 (bl 119 (a_iload 6 121)) (bl 121 (a_const 8 123))) (bn 124 (bl 123 (a_div frem 124)) (bn 125 (bl 124 (a_bin fadd 125)) (bl 125 (a_istore 3 126)))))) (bn 141 (bn 132 (bn 129 (bl 126 (a_iinc 6 1 129)) (bl 129 (a_goto 60))) (bn 135 (bl 132 (a_iinc 5 1 135)) (bn 138 (bl 135 (a_goto 43)) (bl 138 (a_iinc 4 1 141))))) (bn 148 (bn 144 (bl 141 (a_goto 23)) (bn 145 (bl 144 (a_iload 1 145)) (bl 145 (a_if 1 152 148)))) (bn 149 (bl 148 (a_iload 2 149)) (bn 152 (bl 149 (a_goto 153)) (bl 152 (a_iload 3 153))))))))
set_option maxRecDepth 100000 in
set_option maxHeartbeats 4000000 in
theorem zTo_127 {pre : zPre} {post : zPost} (H : zTieC pre post) {d : Nat × Nat × Nat} (hd : zLe (3, 0, 0) d) : aTr zG0 zT0 zInv (true, false) PZ zbd pre post d prog_14_method_97_code "CapitalCaseModel" zTr_127 := (xB_n (xB_n (xB_n (xB_n (xB_n (xB_n (xB_l ⟨_, zs_iload_n em120_0, as_iload⟩) (xB_l ⟨_, zs_iconst (v := 0) em120_1 (by decide +kernel), as_const (by decide +kernel)⟩)) (xB_n (xB_l ⟨_, zs_iconst (v := 1) em120_2 (by decide +kernel), as_const (by decide +kernel)⟩) (xB_n (xB_l ⟨_, zs_invS em120_3 zl_157 wd_1629 wd_1630 ((congrFun xo_12 324).trans rfl) xm_148, ag_inv H zh_157 hd (by decide)⟩) (xB_l ⟨_, zs_ifne em120_6 (t := 11) (by decide), as_if⟩)))) (xB_n (xB_n (xB_l ⟨_, zs_iconst (v := (-1)) em120_9 (by decide +kernel), as_const (by decide +kernel)⟩) (xB_l ⟨_, zs_aload_n em120_11, as_aload⟩)) (xB_n (xB_l ⟨_, zs_invV (T := TX12) em120_12 zl_136 rfl wd_1635 wd_1637 wd_73 ((congrFun xo_12 411).trans rfl) xm_129, ag_invV H zh_136 hd (by decide)⟩) (xB_n (xB_l ⟨_, zs_iconst (v := 0) em120_15 (by decide +kernel), as_const (by decide +kernel)⟩) (xB_l ⟨_, zs_istore_n em120_16, as_istore⟩))))) (xB_n (xB_n (xB_n (xB_l ⟨_, zs_bipush (v := (-2)) em120_17 (by decide +kernel), as_const (by decide +kernel)⟩) (xB_l ⟨_, zs_istore_n em120_19, as_istore⟩)) (xB_n (xB_l ⟨_, zs_iconst (v := 0) em120_20 (by decide +kernel), as_const (by decide +kernel)⟩) (xB_n (xB_l ⟨_, zs_istore em120_21, as_istore⟩) (xB_l ⟨_, zs_iload em120_23, as_iload⟩)))) (xB_n (xB_n (xB_l ⟨_, zs_aload_n em120_25, as_aload⟩) (xB_l ⟨_, zs_getf (T := TX12) (M := 70) (ci := 12) (j := 3) em120_26 rfl inX12 (by decide) wd_1303 ((congrFun xo_12 43).trans rfl), as_getf zTie⟩)) (xB_n (xB_l ⟨_, zs_aload_n em120_29, as_aload⟩) (xB_n (xB_l ⟨_, zs_getf (T := TX12) (M := 70) (ci := 12) (j := 2) em120_30 rfl inX12 (by decide) wd_1299 ((congrFun xo_12 230).trans rfl), as_getf zTie⟩) (xB_l ⟨_, zs_iald em120_33, ag_iald⟩)))))) (xB_n (xB_n (xB_n (xB_n (xB_l ⟨_, zs_icmpge em120_34 (t := 144) (by decide), as_icmp⟩) (xB_l ⟨_, zs_iload em120_37, as_iload⟩)) (xB_n (xB_l ⟨_, zs_iconst (v := 1) em120_39 (by decide +kernel), as_const (by decide +kernel)⟩) (xB_n (xB_l ⟨_, zs_iadd em120_40, as_bin fadd_ok⟩) (xB_l ⟨_, zs_istore em120_41, as_istore⟩)))) (xB_n (xB_n (xB_l ⟨_, zs_iload em120_43, as_iload⟩) (xB_l ⟨_, zs_aload_n em120_45, as_aload⟩)) (xB_n (xB_l ⟨_, zs_getf (T := TX12) (M := 70) (ci := 12) (j := 3) em120_46 rfl inX12 (by decide) wd_1303 ((congrFun xo_12 43).trans rfl), as_getf zTie⟩) (xB_n (xB_l ⟨_, zs_aload_n em120_49, as_aload⟩) (xB_l ⟨_, zs_getf (T := TX12) (M := 70) (ci := 12) (j := 2) em120_50 rfl inX12 (by decide) wd_1299 ((congrFun xo_12 230).trans rfl), as_getf zTie⟩))))) (xB_n (xB_n (xB_n (xB_l ⟨_, zs_iald em120_53, ag_iald⟩) (xB_l ⟨_, zs_icmpge em120_54 (t := 138) (by decide), as_icmp⟩)) (xB_n (xB_l ⟨_, zs_iconst (v := 0) em120_57 (by decide +kernel), as_const (by decide +kernel)⟩) (xB_n (xB_l ⟨_, zs_istore em120_58, as_istore⟩) (xB_l ⟨_, zs_iload em120_60, as_iload⟩)))) (xB_n (xB_n (xB_l ⟨_, zs_bipush (v := 64) em120_62 (by decide +kernel), as_const (by decide +kernel)⟩) (xB_l ⟨_, zs_icmpge em120_64 (t := 132) (by decide), as_icmp⟩)) (xB_n (xB_l ⟨_, zs_aload_n em120_67, as_aload⟩) (xB_n (xB_l ⟨_, zs_iload em120_68, as_iload⟩) (xB_l ⟨_, zs_iload em120_70, as_iload⟩))))))) (xB_n (xB_n (xB_n (xB_n (xB_n (xB_l ⟨_, zs_iload em120_72, as_iload⟩) (xB_l ⟨_, zs_bipush (v := 8) em120_74 (by decide +kernel), as_const (by decide +kernel)⟩)) (xB_n (xB_l ⟨_, zs_idiv em120_76, as_div fdiv_ok⟩) (xB_n (xB_l ⟨_, zs_iload em120_77, as_iload⟩) (xB_l ⟨_, zs_bipush (v := 8) em120_79 (by decide +kernel), as_const (by decide +kernel)⟩)))) (xB_n (xB_n (xB_l ⟨_, zs_irem em120_81, as_div frem_ok⟩) (xB_l ⟨_, zs_invV (T := TX12) em120_82 zl_176 rfl wd_1838 wd_1840 wd_105 ((congrFun xo_12 463).trans rfl) xm_150, ag_invV H zh_176 hd (by decide)⟩)) (xB_n (xB_l ⟨_, zs_ifne em120_85 (t := 91) (by decide), as_if⟩) (xB_n (xB_l ⟨_, zs_goto em120_88 (t := 126) (by decide), as_goto⟩) (xB_l ⟨_, zs_iinc (k := 1) em120_91 (by decide +kernel), as_iinc (by decide +kernel)⟩))))) (xB_n (xB_n (xB_n (xB_l ⟨_, zs_iload_n em120_94, as_iload⟩) (xB_l ⟨_, zs_ifge em120_95 (t := 126) (by decide), as_if⟩)) (xB_n (xB_l ⟨_, zs_sipush (v := 1000) em120_98 (by decide +kernel), as_const (by decide +kernel)⟩) (xB_n (xB_l ⟨_, zs_iload em120_101, as_iload⟩) (xB_l ⟨_, zs_imul em120_103, as_bin fmul_ok⟩)))) (xB_n (xB_n (xB_l ⟨_, zs_bipush (v := 100) em120_104 (by decide +kernel), as_const (by decide +kernel)⟩) (xB_l ⟨_, zs_iload em120_106, as_iload⟩)) (xB_n (xB_l ⟨_, zs_imul em120_108, as_bin fmul_ok⟩) (xB_n (xB_l ⟨_, zs_iadd em120_109, as_bin fadd_ok⟩) (xB_l ⟨_, zs_bipush (v := 10) em120_110 (by decide +kernel), as_const (by decide +kernel)⟩)))))) (xB_n (xB_n (xB_n (xB_n (xB_l ⟨_, zs_iload em120_112, as_iload⟩) (xB_l ⟨_, zs_bipush (v := 8) em120_114 (by decide +kernel), as_const (by decide +kernel)⟩)) (xB_n (xB_l ⟨_, zs_idiv em120_116, as_div fdiv_ok⟩) (xB_n (xB_l ⟨_, zs_imul em120_117, as_bin fmul_ok⟩) (xB_l ⟨_, zs_iadd em120_118, as_bin fadd_ok⟩)))) (xB_n (xB_n (xB_l ⟨_, zs_iload em120_119, as_iload⟩) (xB_l ⟨_, zs_bipush (v := 8) em120_121 (by decide +kernel), as_const (by decide +kernel)⟩)) (xB_n (xB_l ⟨_, zs_irem em120_123, as_div frem_ok⟩) (xB_n (xB_l ⟨_, zs_iadd em120_124, as_bin fadd_ok⟩) (xB_l ⟨_, zs_istore_n em120_125, as_istore⟩))))) (xB_n (xB_n (xB_n (xB_l ⟨_, zs_iinc (k := 1) em120_126 (by decide +kernel), as_iinc (by decide +kernel)⟩) (xB_l ⟨_, zs_goto em120_129 (t := 60) (by decide), as_goto⟩)) (xB_n (xB_l ⟨_, zs_iinc (k := 1) em120_132 (by decide +kernel), as_iinc (by decide +kernel)⟩) (xB_n (xB_l ⟨_, zs_goto em120_135 (t := 43) (by decide), as_goto⟩) (xB_l ⟨_, zs_iinc (k := 1) em120_138 (by decide +kernel), as_iinc (by decide +kernel)⟩)))) (xB_n (xB_n (xB_l ⟨_, zs_goto em120_141 (t := 23) (by decide), as_goto⟩) (xB_n (xB_l ⟨_, zs_iload_n em120_144, as_iload⟩) (xB_l ⟨_, zs_ifne em120_145 (t := 152) (by decide), as_if⟩))) (xB_n (xB_l ⟨_, zs_iload_n em120_148, as_iload⟩) (xB_n (xB_l ⟨_, zs_goto em120_149 (t := 153) (by decide), as_goto⟩) (xB_l ⟨_, zs_iload_n em120_152, as_iload⟩))))))))
set_option maxRecDepth 100000 in
set_option maxHeartbeats 4000000 in
theorem zM_127 : zOKa 127 zc_127 := z_auto (cuts := [(23, ([(0, 0), (0, 1), (0, 1), ((-2147483648), 2147483647), ((-2), 2147483647), (0, 5)], [], [some (.inr (.inl (0, 75))), some (.inl (1, 0)), some (.inl (3, 0)), some (.inl (4, 0)), some (.inl (5, 0)), none, none], [], [(22, 2, 0)], (0, 0)), [(0, 2), (0, 3), (0, 4)], 1985, [0, 0, 0, 0, 0, (-331)]), (43, ([(0, 0), (0, 1), (0, 1), ((-2147483648), 2147483647), ((-2), 2147483647), (0, 4), (1, 5)], [], [some (.inr (.inl (0, 75))), some (.inl (1, 0)), some (.inl (3, 0)), some (.inl (4, 0)), some (.inl (5, 0)), some (.inl (6, 0)), none], [], [(22, 2, 0)], (0, 0)), [(0, 2), (0, 3), (0, 4), (0, 5)], 2050, [0, 0, 0, 0, 0, (-331), (-66)]), (60, ([(0, 0), (0, 1), (0, 1), ((-2147483648), 2147483647), ((-2), 2147483647), (0, 4), (1, 4), (0, 64)], [], [some (.inr (.inl (0, 75))), some (.inl (1, 0)), some (.inl (3, 0)), some (.inl (4, 0)), some (.inl (5, 0)), some (.inl (6, 0)), some (.inl (7, 0))], [], [(22, 2, 0)], (0, 0)), [(0, 2), (0, 3), (0, 4), (0, 5), (0, 6)], 2049, [0, 0, 0, 0, 0, (-331), (-66), (-1)])]) (rets := [(10, 1), (153, 1)]) (fuel := 1000) rfl rfl (by decide) (xrt_ok (xR_c (Or.inl ⟨rfl, em120_10, rfl⟩) (xR_c (Or.inl ⟨rfl, em120_153, rfl⟩) (xR_n)))) (fun _ _ H _ hd => zTo_127 H hd) (by decide +kernel)
theorem em121_0 : decode prog_14_method_46_code 0 = .ok (.iconst 0, 1) := by decide +kernel
theorem em121_1 : decode prog_14_method_46_code 1 = .ok (.istore_n 1, 1) := by decide +kernel
theorem em121_2 : decode prog_14_method_46_code 2 = .ok (.iload_n 1, 1) := by decide +kernel
theorem em121_3 : decode prog_14_method_46_code 3 = .ok (.sipush 390, 3) := by decide +kernel
theorem em121_6 : decode prog_14_method_46_code 6 = .ok (.if_icmp .ge 16, 3) := by decide +kernel
theorem em121_9 : decode prog_14_method_46_code 9 = .ok (.aload_n 0, 1) := by decide +kernel
theorem em121_10 : decode prog_14_method_46_code 10 = .ok (.getfield 116, 3) := by decide +kernel
theorem em121_13 : decode prog_14_method_46_code 13 = .ok (.iload_n 1, 1) := by decide +kernel
theorem em121_14 : decode prog_14_method_46_code 14 = .ok (.iconst 0, 1) := by decide +kernel
theorem em121_15 : decode prog_14_method_46_code 15 = .ok (.iastore, 1) := by decide +kernel
theorem em121_16 : decode prog_14_method_46_code 16 = .ok (.iinc 1 1, 3) := by decide +kernel
theorem em121_19 : decode prog_14_method_46_code 19 = .ok (.goto (-17), 3) := by decide +kernel
theorem em121_22 : decode prog_14_method_46_code 22 = .ok (.iconst 0, 1) := by decide +kernel
theorem em121_23 : decode prog_14_method_46_code 23 = .ok (.istore_n 1, 1) := by decide +kernel
theorem em121_24 : decode prog_14_method_46_code 24 = .ok (.iload_n 1, 1) := by decide +kernel
theorem em121_25 : decode prog_14_method_46_code 25 = .ok (.bipush 8, 2) := by decide +kernel
theorem em121_27 : decode prog_14_method_46_code 27 = .ok (.aload_n 0, 1) := by decide +kernel
theorem em121_28 : decode prog_14_method_46_code 28 = .ok (.getfield 43, 3) := by decide +kernel
theorem em121_31 : decode prog_14_method_46_code 31 = .ok (.aload_n 0, 1) := by decide +kernel
theorem em121_32 : decode prog_14_method_46_code 32 = .ok (.getfield 230, 3) := by decide +kernel
theorem em121_35 : decode prog_14_method_46_code 35 = .ok (.iaload, 1) := by decide +kernel
theorem em121_36 : decode prog_14_method_46_code 36 = .ok (.imul, 1) := by decide +kernel
theorem em121_37 : decode prog_14_method_46_code 37 = .ok (.if_icmp .ge 29, 3) := by decide +kernel
theorem em121_40 : decode prog_14_method_46_code 40 = .ok (.aload_n 0, 1) := by decide +kernel
theorem em121_41 : decode prog_14_method_46_code 41 = .ok (.getfield 116, 3) := by decide +kernel
theorem em121_44 : decode prog_14_method_46_code 44 = .ok (.iload_n 1, 1) := by decide +kernel
theorem em121_45 : decode prog_14_method_46_code 45 = .ok (.aload_n 0, 1) := by decide +kernel
theorem em121_46 : decode prog_14_method_46_code 46 = .ok (.getfield 46, 3) := by decide +kernel
theorem em121_49 : decode prog_14_method_46_code 49 = .ok (.bipush 40, 2) := by decide +kernel
theorem em121_51 : decode prog_14_method_46_code 51 = .ok (.aload_n 0, 1) := by decide +kernel
theorem em121_52 : decode prog_14_method_46_code 52 = .ok (.getfield 230, 3) := by decide +kernel
theorem em121_55 : decode prog_14_method_46_code 55 = .ok (.imul, 1) := by decide +kernel
theorem em121_56 : decode prog_14_method_46_code 56 = .ok (.iload_n 1, 1) := by decide +kernel
theorem em121_57 : decode prog_14_method_46_code 57 = .ok (.iadd, 1) := by decide +kernel
theorem em121_58 : decode prog_14_method_46_code 58 = .ok (.iaload, 1) := by decide +kernel
theorem em121_59 : decode prog_14_method_46_code 59 = .ok (.iastore, 1) := by decide +kernel
theorem em121_60 : decode prog_14_method_46_code 60 = .ok (.iinc 1 1, 3) := by decide +kernel
theorem em121_63 : decode prog_14_method_46_code 63 = .ok (.goto (-39), 3) := by decide +kernel
theorem em121_66 : decode prog_14_method_46_code 66 = .ok (.aload_n 0, 1) := by decide +kernel
theorem em121_67 : decode prog_14_method_46_code 67 = .ok (.aload_n 0, 1) := by decide +kernel
theorem em121_68 : decode prog_14_method_46_code 68 = .ok (.getfield 70, 3) := by decide +kernel
theorem em121_71 : decode prog_14_method_46_code 71 = .ok (.aload_n 0, 1) := by decide +kernel
theorem em121_72 : decode prog_14_method_46_code 72 = .ok (.getfield 230, 3) := by decide +kernel
theorem em121_75 : decode prog_14_method_46_code 75 = .ok (.iaload, 1) := by decide +kernel
theorem em121_76 : decode prog_14_method_46_code 76 = .ok (.putfield 328, 3) := by decide +kernel
theorem em121_79 : decode prog_14_method_46_code 79 = .ok (.aload_n 0, 1) := by decide +kernel
theorem em121_80 : decode prog_14_method_46_code 80 = .ok (.iconst 0, 1) := by decide +kernel
theorem em121_81 : decode prog_14_method_46_code 81 = .ok (.putfield 331, 3) := by decide +kernel
theorem em121_84 : decode prog_14_method_46_code 84 = .ok (.aload_n 0, 1) := by decide +kernel
theorem em121_85 : decode prog_14_method_46_code 85 = .ok (.iconst (-1), 1) := by decide +kernel
theorem em121_86 : decode prog_14_method_46_code 86 = .ok (.putfield 334, 3) := by decide +kernel
theorem em121_89 : decode prog_14_method_46_code 89 = .ok (.return_, 1) := by decide +kernel
/-! CapitalCaseModel.begins:()V -/
noncomputable def zTr_128 : Nat → Option aF := bn 44 (bn 22 (bn 10 (bn 3 (bn 1 (bl 0 (a_const 0 1)) (bn 2 (bl 1 (a_istore 1 2)) (bl 2 (a_iload 1 3)))) (bn 6 (bl 3 (a_const 390 6)) (bn 9 (bl 6 (a_icmp 3 22 9)) (bl 9 (a_aload 0 10))))) (bn 15 (bn 13 (bl 10 (a_getf zG0 zT0 12 0 13)) (bn 14 (bl 13 (a_iload 1 14)) (bl 14 (a_const 0 15)))) (bn 16 (bl 15 (a_ast zG0 zT0 ts0 16)) (bn 19 (bl 16 (a_iinc 1 1 19)) (bl 19 (a_goto 2)))))) (bn 31 (bn 25 (bn 23 (bl 22 (a_const 0 23)) (bn 24 (bl 23 (a_istore 1 24)) (bl 24 (a_iload 1 25)))) (bn 27 (bl 25 (a_const 8 27)) (bn 28 (bl 27 (a_aload 0 28)) (bl 28 (a_getf zG0 zT0 12 3 31))))) (bn 36 (bn 32 (bl 31 (a_aload 0 32)) (bn 35 (bl 32 (a_getf zG0 zT0 12 2 35)) (bl 35 (a_ald zG0 zT0 (true, false) ts0 36)))) (bn 40 (bn 37 (bl 36 (a_bin fmul 37)) (bl 37 (a_icmp 3 66 40))) (bn 41 (bl 40 (a_aload 0 41)) (bl 41 (a_getf zG0 zT0 12 0 44))))))) (bn 66 (bn 55 (bn 49 (bn 45 (bl 44 (a_iload 1 45)) (bn 46 (bl 45 (a_aload 0 46)) (bl 46 (a_getf zG0 zT0 12 35 49)))) (bn 51 (bl 49 (a_const 40 51)) (bn 52 (bl 51 (a_aload 0 52)) (bl 52 (a_getf zG0 zT0 12 2 55))))) (bn 58 (bn 56 (bl 55 (a_bin fmul 56)) (bn 57 (bl 56 (a_iload 1 57)) (bl 57 (a_bin fadd 58)))) (bn 60 (bn 59 (bl 58 (a_ald zG0 zT0 (true, false) ts0 59)) (bl 59 (a_ast zG0 zT0 ts0 60))) (bn 63 (bl 60 (a_iinc 1 1 63)) (bl 63 (a_goto 24)))))) (bn 76 (bn 71 (bn 67 (bl 66 (a_aload 0 67)) (bn 68 (bl 67 (a_aload 0 68)) (bl 68 (a_getf zG0 zT0 12 5 71)))) (bn 72 (bl 71 (a_aload 0 72)) (bn 75 (bl 72 (a_getf zG0 zT0 12 2 75)) (bl 75 (a_ald zG0 zT0 (true, false) ts0 76))))) (bn 81 (bn 79 (bl 76 (a_puti zG0 zT0 zprot 12 6 0 79)) (bn 80 (bl 79 (a_aload 0 80)) (bl 80 (a_const 0 81)))) (bn 85 (bn 84 (bl 81 (a_puti zG0 zT0 zprot 12 7 1 84)) (bl 84 (a_aload 0 85))) (bn 86 (bl 85 (a_const (-1) 86)) (bl 86 (a_puti zG0 zT0 zprot 12 8 0 89)))))))
set_option maxRecDepth 100000 in
set_option maxHeartbeats 4000000 in
theorem zTo_128 {pre : zPre} {post : zPost} (H : zTieC pre post) {d : Nat × Nat × Nat} (hd : zLe (0, 0, 0) d) : aTr zG0 zT0 zInv (true, false) PZ zbd pre post d prog_14_method_46_code "CapitalCaseModel" zTr_128 := (xB_n (xB_n (xB_n (xB_n (xB_n (xB_l ⟨_, zs_iconst (v := 0) em121_0 (by decide +kernel), as_const (by decide +kernel)⟩) (xB_n (xB_l ⟨_, zs_istore_n em121_1, as_istore⟩) (xB_l ⟨_, zs_iload_n em121_2, as_iload⟩))) (xB_n (xB_l ⟨_, zs_sipush (v := 390) em121_3 (by decide +kernel), as_const (by decide +kernel)⟩) (xB_n (xB_l ⟨_, zs_icmpge em121_6 (t := 22) (by decide), as_icmp⟩) (xB_l ⟨_, zs_aload_n em121_9, as_aload⟩)))) (xB_n (xB_n (xB_l ⟨_, zs_getf (T := TX12) (M := 70) (ci := 12) (j := 0) em121_10 rfl inX12 (by decide) wd_1332 ((congrFun xo_12 116).trans rfl), as_getf zTie⟩) (xB_n (xB_l ⟨_, zs_iload_n em121_13, as_iload⟩) (xB_l ⟨_, zs_iconst (v := 0) em121_14 (by decide +kernel), as_const (by decide +kernel)⟩))) (xB_n (xB_l ⟨_, zs_iast zInj0 em121_15, as_iast zTie⟩) (xB_n (xB_l ⟨_, zs_iinc (k := 1) em121_16 (by decide +kernel), as_iinc (by decide +kernel)⟩) (xB_l ⟨_, zs_goto em121_19 (t := 2) (by decide), as_goto⟩))))) (xB_n (xB_n (xB_n (xB_l ⟨_, zs_iconst (v := 0) em121_22 (by decide +kernel), as_const (by decide +kernel)⟩) (xB_n (xB_l ⟨_, zs_istore_n em121_23, as_istore⟩) (xB_l ⟨_, zs_iload_n em121_24, as_iload⟩))) (xB_n (xB_l ⟨_, zs_bipush (v := 8) em121_25 (by decide +kernel), as_const (by decide +kernel)⟩) (xB_n (xB_l ⟨_, zs_aload_n em121_27, as_aload⟩) (xB_l ⟨_, zs_getf (T := TX12) (M := 70) (ci := 12) (j := 3) em121_28 rfl inX12 (by decide) wd_1303 ((congrFun xo_12 43).trans rfl), as_getf zTie⟩)))) (xB_n (xB_n (xB_l ⟨_, zs_aload_n em121_31, as_aload⟩) (xB_n (xB_l ⟨_, zs_getf (T := TX12) (M := 70) (ci := 12) (j := 2) em121_32 rfl inX12 (by decide) wd_1299 ((congrFun xo_12 230).trans rfl), as_getf zTie⟩) (xB_l ⟨_, zs_iald em121_35, ag_iald⟩))) (xB_n (xB_n (xB_l ⟨_, zs_imul em121_36, as_bin fmul_ok⟩) (xB_l ⟨_, zs_icmpge em121_37 (t := 66) (by decide), as_icmp⟩)) (xB_n (xB_l ⟨_, zs_aload_n em121_40, as_aload⟩) (xB_l ⟨_, zs_getf (T := TX12) (M := 70) (ci := 12) (j := 0) em121_41 rfl inX12 (by decide) wd_1332 ((congrFun xo_12 116).trans rfl), as_getf zTie⟩)))))) (xB_n (xB_n (xB_n (xB_n (xB_l ⟨_, zs_iload_n em121_44, as_iload⟩) (xB_n (xB_l ⟨_, zs_aload_n em121_45, as_aload⟩) (xB_l ⟨_, zs_getf (T := TX12) (M := 70) (ci := 12) (j := 35) em121_46 rfl inX12 (by decide) wd_1304 ((congrFun xo_12 46).trans rfl), as_getf zTie⟩))) (xB_n (xB_l ⟨_, zs_bipush (v := 40) em121_49 (by decide +kernel), as_const (by decide +kernel)⟩) (xB_n (xB_l ⟨_, zs_aload_n em121_51, as_aload⟩) (xB_l ⟨_, zs_getf (T := TX12) (M := 70) (ci := 12) (j := 2) em121_52 rfl inX12 (by decide) wd_1299 ((congrFun xo_12 230).trans rfl), as_getf zTie⟩)))) (xB_n (xB_n (xB_l ⟨_, zs_imul em121_55, as_bin fmul_ok⟩) (xB_n (xB_l ⟨_, zs_iload_n em121_56, as_iload⟩) (xB_l ⟨_, zs_iadd em121_57, as_bin fadd_ok⟩))) (xB_n (xB_n (xB_l ⟨_, zs_iald em121_58, ag_iald⟩) (xB_l ⟨_, zs_iast zInj0 em121_59, as_iast zTie⟩)) (xB_n (xB_l ⟨_, zs_iinc (k := 1) em121_60 (by decide +kernel), as_iinc (by decide +kernel)⟩) (xB_l ⟨_, zs_goto em121_63 (t := 24) (by decide), as_goto⟩))))) (xB_n (xB_n (xB_n (xB_l ⟨_, zs_aload_n em121_66, as_aload⟩) (xB_n (xB_l ⟨_, zs_aload_n em121_67, as_aload⟩) (xB_l ⟨_, zs_getf (T := TX12) (M := 70) (ci := 12) (j := 5) em121_68 rfl inX12 (by decide) wd_1312 ((congrFun xo_12 70).trans rfl), as_getf zTie⟩))) (xB_n (xB_l ⟨_, zs_aload_n em121_71, as_aload⟩) (xB_n (xB_l ⟨_, zs_getf (T := TX12) (M := 70) (ci := 12) (j := 2) em121_72 rfl inX12 (by decide) wd_1299 ((congrFun xo_12 230).trans rfl), as_getf zTie⟩) (xB_l ⟨_, zs_iald em121_75, ag_iald⟩)))) (xB_n (xB_n (xB_l ⟨_, zs_puti zInj0 (T := TX12) (M := 70) (ty := tyX12) (ci := 12) (j := 6) (kd := 0) em121_76 rfl inX12 tyX12_ok nmX12 (by decide) wd_1333 (Or.inl ⟨rfl, rfl⟩) rfl ((congrFun xo_12 328).trans rfl), ag_puti0⟩) (xB_n (xB_l ⟨_, zs_aload_n em121_79, as_aload⟩) (xB_l ⟨_, zs_iconst (v := 0) em121_80 (by decide +kernel), as_const (by decide +kernel)⟩))) (xB_n (xB_n (xB_l ⟨_, zs_puti zInj0 (T := TX12) (M := 70) (ty := tyX12) (ci := 12) (j := 7) (kd := 1) em121_81 rfl inX12 tyX12_ok nmX12 (by decide) wd_1334 (Or.inr ⟨rfl, rfl⟩) rfl ((congrFun xo_12 331).trans rfl), ag_puti1⟩) (xB_l ⟨_, zs_aload_n em121_84, as_aload⟩)) (xB_n (xB_l ⟨_, zs_iconst (v := (-1)) em121_85 (by decide +kernel), as_const (by decide +kernel)⟩) (xB_l ⟨_, zs_puti zInj0 (T := TX12) (M := 70) (ty := tyX12) (ci := 12) (j := 8) (kd := 0) em121_86 rfl inX12 tyX12_ok nmX12 (by decide) wd_1335 (Or.inl ⟨rfl, rfl⟩) rfl ((congrFun xo_12 334).trans rfl), ag_puti0⟩)))))))
set_option maxRecDepth 100000 in
set_option maxHeartbeats 4000000 in
theorem zM_128 : zOKa 128 zc_128 := z_auto (cuts := [(2, ([(0, 0), (0, 1), (0, 390)], [], [some (.inr (.inl (0, 75))), some (.inl (2, 0))], [], [(22, 1, 0)], (0, 0)), [(0, 1)], 431, [0, 0, (-1)]), (24, ([(0, 0), (0, 1), (0, 40)], [], [some (.inr (.inl (0, 75))), some (.inl (2, 0))], [], [(22, 1, 0)], (0, 0)), [(0, 1)], 40, [0, 0, (-1)])]) (rets := [(89, 3)]) (fuel := 1000) rfl rfl (by decide) (xrt_ok (xR_c (Or.inr (Or.inr (Or.inl ⟨rfl, em121_89, rfl⟩))) (xR_n))) (fun _ _ H _ hd => zTo_128 H hd) (by decide +kernel)
theorem em122_0 : decode prog_14_method_88_code 0 = .ok (.iload_n 1, 1) := by decide +kernel
theorem em122_1 : decode prog_14_method_88_code 1 = .ok (.iconst 0, 1) := by decide +kernel
theorem em122_2 : decode prog_14_method_88_code 2 = .ok (.iconst 1, 1) := by decide +kernel
theorem em122_3 : decode prog_14_method_88_code 3 = .ok (.invokestatic 324, 3) := by decide +kernel
theorem em122_6 : decode prog_14_method_88_code 6 = .ok (.ifCond .ne 5, 3) := by decide +kernel
theorem em122_9 : decode prog_14_method_88_code 9 = .ok (.iconst (-1), 1) := by decide +kernel
theorem em122_10 : decode prog_14_method_88_code 10 = .ok (.ireturn, 1) := by decide +kernel
theorem em122_11 : decode prog_14_method_88_code 11 = .ok (.aload_n 0, 1) := by decide +kernel
theorem em122_12 : decode prog_14_method_88_code 12 = .ok (.invokevirtual 411, 3) := by decide +kernel
theorem em122_15 : decode prog_14_method_88_code 15 = .ok (.aload_n 0, 1) := by decide +kernel
theorem em122_16 : decode prog_14_method_88_code 16 = .ok (.invokevirtual 451, 3) := by decide +kernel
theorem em122_19 : decode prog_14_method_88_code 19 = .ok (.iload_n 1, 1) := by decide +kernel
theorem em122_20 : decode prog_14_method_88_code 20 = .ok (.ifCond .ne 10, 3) := by decide +kernel
theorem em122_23 : decode prog_14_method_88_code 23 = .ok (.aload_n 0, 1) := by decide +kernel
theorem em122_24 : decode prog_14_method_88_code 24 = .ok (.getfield 442, 3) := by decide +kernel
theorem em122_27 : decode prog_14_method_88_code 27 = .ok (.goto 7, 3) := by decide +kernel
theorem em122_30 : decode prog_14_method_88_code 30 = .ok (.aload_n 0, 1) := by decide +kernel
theorem em122_31 : decode prog_14_method_88_code 31 = .ok (.getfield 445, 3) := by decide +kernel
theorem em122_34 : decode prog_14_method_88_code 34 = .ok (.ireturn, 1) := by decide +kernel
/-! CapitalCaseModel.best:(I)I -/
noncomputable def zTr_129 : Nat → Option aF := bn 15 (bn 6 (bn 2 (bn 1 (bl 0 (a_iload 1 1)) (bl 1 (a_const 0 2))) (bn 3 (bl 2 (a_const 1 3)) (bl 3 (a_inv zG0 zprot (true, false) zc_158 (zbd 158) (11, 0, 0) 3 6)))) (bn 11 (bn 9 (bl 6 (a_if 1 11 9)) (bl 9 (a_const (-1) 10))) (bn 12 (bl 11 (a_aload 0 12)) (bl 12 (a_invV zG0 zprot (true, false) zc_136 (zbd 136) (11, 0, 0) 12 1 15))))) (bn 23 (bn 19 (bn 16 (bl 15 (a_aload 0 16)) (bl 16 (a_invV zG0 zprot (true, false) zc_142 (zbd 142) (11, 0, 0) 12 1 19))) (bn 20 (bl 19 (a_iload 1 20)) (bl 20 (a_if 1 30 23)))) (bn 27 (bn 24 (bl 23 (a_aload 0 24)) (bl 24 (a_getf zG0 zT0 12 62 27))) (bn 30 (bl 27 (a_goto 34)) (bn 31 (bl 30 (a_aload 0 31)) (bl 31 (a_getf zG0 zT0 12 63 34))))))
set_option maxRecDepth 100000 in
set_option maxHeartbeats 4000000 in
theorem zTo_129 {pre : zPre} {post : zPost} (H : zTieC pre post) {d : Nat × Nat × Nat} (hd : zLe (11, 0, 0) d) : aTr zG0 zT0 zInv (true, false) PZ zbd pre post d prog_14_method_88_code "CapitalCaseModel" zTr_129 := (xB_n (xB_n (xB_n (xB_n (xB_l ⟨_, zs_iload_n em122_0, as_iload⟩) (xB_l ⟨_, zs_iconst (v := 0) em122_1 (by decide +kernel), as_const (by decide +kernel)⟩)) (xB_n (xB_l ⟨_, zs_iconst (v := 1) em122_2 (by decide +kernel), as_const (by decide +kernel)⟩) (xB_l ⟨_, zs_invS em122_3 zl_158 wd_1629 wd_1630 ((congrFun xo_12 324).trans rfl) xm_148, ag_inv H zh_158 hd (by decide)⟩))) (xB_n (xB_n (xB_l ⟨_, zs_ifne em122_6 (t := 11) (by decide), as_if⟩) (xB_l ⟨_, zs_iconst (v := (-1)) em122_9 (by decide +kernel), as_const (by decide +kernel)⟩)) (xB_n (xB_l ⟨_, zs_aload_n em122_11, as_aload⟩) (xB_l ⟨_, zs_invV (T := TX12) em122_12 zl_136 rfl wd_1635 wd_1637 wd_73 ((congrFun xo_12 411).trans rfl) xm_129, ag_invV H zh_136 hd (by decide)⟩)))) (xB_n (xB_n (xB_n (xB_l ⟨_, zs_aload_n em122_15, as_aload⟩) (xB_l ⟨_, zs_invV (T := TX12) em122_16 zl_142 rfl wd_1794 wd_1796 wd_99 ((congrFun xo_12 451).trans rfl) xm_135, ag_invV H zh_142 hd (by decide)⟩)) (xB_n (xB_l ⟨_, zs_iload_n em122_19, as_iload⟩) (xB_l ⟨_, zs_ifne em122_20 (t := 30) (by decide), as_if⟩))) (xB_n (xB_n (xB_l ⟨_, zs_aload_n em122_23, as_aload⟩) (xB_l ⟨_, zs_getf (T := TX12) (M := 70) (ci := 12) (j := 62) em122_24 rfl inX12 (by decide) wd_1343 ((congrFun xo_12 442).trans rfl), as_getf zTie⟩)) (xB_n (xB_l ⟨_, zs_goto em122_27 (t := 34) (by decide), as_goto⟩) (xB_n (xB_l ⟨_, zs_aload_n em122_30, as_aload⟩) (xB_l ⟨_, zs_getf (T := TX12) (M := 70) (ci := 12) (j := 63) em122_31 rfl inX12 (by decide) wd_1344 ((congrFun xo_12 445).trans rfl), as_getf zTie⟩))))))
set_option maxRecDepth 100000 in
set_option maxHeartbeats 4000000 in
theorem zM_129 : zOKa 129 zc_129 := z_auto (cuts := []) (rets := [(10, 1), (34, 1)]) (fuel := 1000) rfl rfl (by decide) (xrt_ok (xR_c (Or.inl ⟨rfl, em122_10, rfl⟩) (xR_c (Or.inl ⟨rfl, em122_34, rfl⟩) (xR_n)))) (fun _ _ H _ hd => zTo_129 H hd) (by decide +kernel)
theorem em123_0 : decode prog_14_method_42_code 0 = .ok (.iconst 0, 1) := by decide +kernel
theorem em123_1 : decode prog_14_method_42_code 1 = .ok (.istore_n 1, 1) := by decide +kernel
theorem em123_2 : decode prog_14_method_42_code 2 = .ok (.iconst 0, 1) := by decide +kernel
theorem em123_3 : decode prog_14_method_42_code 3 = .ok (.istore_n 2, 1) := by decide +kernel
theorem em123_4 : decode prog_14_method_42_code 4 = .ok (.iload_n 2, 1) := by decide +kernel
theorem em123_5 : decode prog_14_method_42_code 5 = .ok (.bipush 8, 2) := by decide +kernel
theorem em123_7 : decode prog_14_method_42_code 7 = .ok (.if_icmp .ge 17, 3) := by decide +kernel
theorem em123_10 : decode prog_14_method_42_code 10 = .ok (.iload_n 1, 1) := by decide +kernel
theorem em123_11 : decode prog_14_method_42_code 11 = .ok (.iload_n 0, 1) := by decide +kernel
theorem em123_12 : decode prog_14_method_42_code 12 = .ok (.iload_n 2, 1) := by decide +kernel
theorem em123_13 : decode prog_14_method_42_code 13 = .ok (.ishr, 1) := by decide +kernel
theorem em123_14 : decode prog_14_method_42_code 14 = .ok (.iconst 1, 1) := by decide +kernel
theorem em123_15 : decode prog_14_method_42_code 15 = .ok (.iand, 1) := by decide +kernel
theorem em123_16 : decode prog_14_method_42_code 16 = .ok (.iadd, 1) := by decide +kernel
theorem em123_17 : decode prog_14_method_42_code 17 = .ok (.istore_n 1, 1) := by decide +kernel
theorem em123_18 : decode prog_14_method_42_code 18 = .ok (.iinc 2 1, 3) := by decide +kernel
theorem em123_21 : decode prog_14_method_42_code 21 = .ok (.goto (-17), 3) := by decide +kernel
theorem em123_24 : decode prog_14_method_42_code 24 = .ok (.iload_n 1, 1) := by decide +kernel
theorem em123_25 : decode prog_14_method_42_code 25 = .ok (.ireturn, 1) := by decide +kernel
/-! CapitalCaseModel.bits:(I)I -/
noncomputable def zTr_130 : Nat → Option aF := bn 12 (bn 4 (bn 2 (bn 1 (bl 0 (a_const 0 1)) (bl 1 (a_istore 1 2))) (bn 3 (bl 2 (a_const 0 3)) (bl 3 (a_istore 2 4)))) (bn 7 (bn 5 (bl 4 (a_iload 2 5)) (bl 5 (a_const 8 7))) (bn 10 (bl 7 (a_icmp 3 24 10)) (bn 11 (bl 10 (a_iload 1 11)) (bl 11 (a_iload 0 12)))))) (bn 16 (bn 14 (bn 13 (bl 12 (a_iload 2 13)) (bl 13 (a_bin fany 14))) (bn 15 (bl 14 (a_const 1 15)) (bl 15 (a_bin fand 16)))) (bn 18 (bn 17 (bl 16 (a_bin fadd 17)) (bl 17 (a_istore 1 18))) (bn 21 (bl 18 (a_iinc 2 1 21)) (bn 24 (bl 21 (a_goto 4)) (bl 24 (a_iload 1 25))))))
set_option maxRecDepth 100000 in
set_option maxHeartbeats 4000000 in
theorem zTo_130 {pre : zPre} {post : zPost} (H : zTieC pre post) {d : Nat × Nat × Nat} (hd : zLe (0, 0, 0) d) : aTr zG0 zT0 zInv (false, false) PZ zbd pre post d prog_14_method_42_code "CapitalCaseModel" zTr_130 := (xB_n (xB_n (xB_n (xB_n (xB_l ⟨_, zs_iconst (v := 0) em123_0 (by decide +kernel), as_const (by decide +kernel)⟩) (xB_l ⟨_, zs_istore_n em123_1, as_istore⟩)) (xB_n (xB_l ⟨_, zs_iconst (v := 0) em123_2 (by decide +kernel), as_const (by decide +kernel)⟩) (xB_l ⟨_, zs_istore_n em123_3, as_istore⟩))) (xB_n (xB_n (xB_l ⟨_, zs_iload_n em123_4, as_iload⟩) (xB_l ⟨_, zs_bipush (v := 8) em123_5 (by decide +kernel), as_const (by decide +kernel)⟩)) (xB_n (xB_l ⟨_, zs_icmpge em123_7 (t := 24) (by decide), as_icmp⟩) (xB_n (xB_l ⟨_, zs_iload_n em123_10, as_iload⟩) (xB_l ⟨_, zs_iload_n em123_11, as_iload⟩))))) (xB_n (xB_n (xB_n (xB_l ⟨_, zs_iload_n em123_12, as_iload⟩) (xB_l ⟨_, zs_ishr em123_13, as_bin fany_ok⟩)) (xB_n (xB_l ⟨_, zs_iconst (v := 1) em123_14 (by decide +kernel), as_const (by decide +kernel)⟩) (xB_l ⟨_, zs_iand em123_15, as_bin fand_ok⟩))) (xB_n (xB_n (xB_l ⟨_, zs_iadd em123_16, as_bin fadd_ok⟩) (xB_l ⟨_, zs_istore_n em123_17, as_istore⟩)) (xB_n (xB_l ⟨_, zs_iinc (k := 1) em123_18 (by decide +kernel), as_iinc (by decide +kernel)⟩) (xB_n (xB_l ⟨_, zs_goto em123_21 (t := 4) (by decide), as_goto⟩) (xB_l ⟨_, zs_iload_n em123_24, as_iload⟩))))))
set_option maxRecDepth 100000 in
set_option maxHeartbeats 4000000 in
theorem zM_130 : zOKa 130 zc_130 := z_auto (cuts := [(4, ([(0, 0), ((-2147483648), 2147483647), ((-2147483648), 2147483647), (0, 8)], [], [some (.inl (1, 0)), some (.inl (2, 0)), some (.inl (3, 0))], [], [], (0, 0)), [(0, 1), (0, 2)], 8, [0, 0, 0, (-1)])]) (rets := [(25, 1)]) (fuel := 1000) rfl rfl (by decide) (xrt_ok (xR_c (Or.inl ⟨rfl, em123_25, rfl⟩) (xR_n))) (fun _ _ H _ hd => zTo_130 H hd) (by decide +kernel)
