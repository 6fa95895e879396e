theorem em57_0 : decode prog_10_method_10_code 0 = .ok (.aload_n 0, 1) := by decide +kernel
theorem em57_1 : decode prog_10_method_10_code 1 = .ok (.getfield 9, 3) := by decide +kernel
theorem em57_4 : decode prog_10_method_10_code 4 = .ok (.iload_n 1, 1) := by decide +kernel
theorem em57_5 : decode prog_10_method_10_code 5 = .ok (.bipush 8, 2) := by decide +kernel
theorem em57_7 : decode prog_10_method_10_code 7 = .ok (.imul, 1) := by decide +kernel
theorem em57_8 : decode prog_10_method_10_code 8 = .ok (.iload_n 3, 1) := by decide +kernel
theorem em57_9 : decode prog_10_method_10_code 9 = .ok (.iadd, 1) := by decide +kernel
theorem em57_10 : decode prog_10_method_10_code 10 = .ok (.dup2, 1) := by decide +kernel
theorem em57_11 : decode prog_10_method_10_code 11 = .ok (.iaload, 1) := by decide +kernel
theorem em57_12 : decode prog_10_method_10_code 12 = .ok (.iconst 1, 1) := by decide +kernel
theorem em57_13 : decode prog_10_method_10_code 13 = .ok (.isub, 1) := by decide +kernel
theorem em57_14 : decode prog_10_method_10_code 14 = .ok (.iastore, 1) := by decide +kernel
theorem em57_15 : decode prog_10_method_10_code 15 = .ok (.aload_n 0, 1) := by decide +kernel
theorem em57_16 : decode prog_10_method_10_code 16 = .ok (.getfield 9, 3) := by decide +kernel
theorem em57_19 : decode prog_10_method_10_code 19 = .ok (.iload_n 2, 1) := by decide +kernel
theorem em57_20 : decode prog_10_method_10_code 20 = .ok (.bipush 8, 2) := by decide +kernel
theorem em57_22 : decode prog_10_method_10_code 22 = .ok (.imul, 1) := by decide +kernel
theorem em57_23 : decode prog_10_method_10_code 23 = .ok (.iload_n 3, 1) := by decide +kernel
theorem em57_24 : decode prog_10_method_10_code 24 = .ok (.iadd, 1) := by decide +kernel
theorem em57_25 : decode prog_10_method_10_code 25 = .ok (.dup2, 1) := by decide +kernel
theorem em57_26 : decode prog_10_method_10_code 26 = .ok (.iaload, 1) := by decide +kernel
theorem em57_27 : decode prog_10_method_10_code 27 = .ok (.iconst 1, 1) := by decide +kernel
theorem em57_28 : decode prog_10_method_10_code 28 = .ok (.iadd, 1) := by decide +kernel
theorem em57_29 : decode prog_10_method_10_code 29 = .ok (.iastore, 1) := by decide +kernel
theorem em57_30 : decode prog_10_method_10_code 30 = .ok (.return_, 1) := by decide +kernel
/-! CapitalCase$Town.move:(III)V -/
noncomputable def zTr_61 : Nat → Option aF := bn 15 (bn 9 (bn 5 (bn 1 (bl 0 (a_aload 0 1)) (bn 4 (bl 1 (a_getf zG0 zT0 8 0 4)) (bl 4 (a_iload 1 5)))) (bn 7 (bl 5 (a_const 8 7)) (bn 8 (bl 7 (a_bin fmul 8)) (bl 8 (a_iload 3 9))))) (bn 12 (bn 10 (bl 9 (a_bin fadd 10)) (bn 11 (bl 10 (a_dup2 11)) (bl 11 (a_ald zG0 zT0 (false, false) ts0 12)))) (bn 13 (bl 12 (a_const 1 13)) (bn 14 (bl 13 (a_bin fsub 14)) (bl 14 (a_ast zG0 zT0 ts0 15)))))) (bn 24 (bn 20 (bn 16 (bl 15 (a_aload 0 16)) (bn 19 (bl 16 (a_getf zG0 zT0 8 0 19)) (bl 19 (a_iload 2 20)))) (bn 22 (bl 20 (a_const 8 22)) (bn 23 (bl 22 (a_bin fmul 23)) (bl 23 (a_iload 3 24))))) (bn 27 (bn 25 (bl 24 (a_bin fadd 25)) (bn 26 (bl 25 (a_dup2 26)) (bl 26 (a_ald zG0 zT0 (false, false) ts0 27)))) (bn 28 (bl 27 (a_const 1 28)) (bn 29 (bl 28 (a_bin fadd 29)) (bl 29 (a_ast zG0 zT0 ts0 30))))))
set_option maxRecDepth 100000 in
set_option maxHeartbeats 4000000 in
theorem zTo_61 {pre : zPre} {post : zPost} (H : zTieC pre post) {d : Nat × Nat × Nat} (hd : zLe (0, 0, 0) d) : aTr zG0 zT0 zInv (false, false) PZ zbd pre post d prog_10_method_10_code "CapitalCase$Town" zTr_61 := (xB_n (xB_n (xB_n (xB_n (xB_l ⟨_, zs_aload_n em57_0, as_aload⟩) (xB_n (xB_l ⟨_, zs_getf (T := TX8) (M := 10) (ci := 8) (j := 0) em57_1 rfl inX8 (by decide) wd_320 ((congrFun xo_9 9).trans rfl), as_getf zTie⟩) (xB_l ⟨_, zs_iload_n em57_4, as_iload⟩))) (xB_n (xB_l ⟨_, zs_bipush (v := 8) em57_5 (by decide +kernel), as_const (by decide +kernel)⟩) (xB_n (xB_l ⟨_, zs_imul em57_7, as_bin fmul_ok⟩) (xB_l ⟨_, zs_iload_n em57_8, as_iload⟩)))) (xB_n (xB_n (xB_l ⟨_, zs_iadd em57_9, as_bin fadd_ok⟩) (xB_n (xB_l ⟨_, zs_dup2 em57_10, as_dup2⟩) (xB_l ⟨_, zs_iald em57_11, ag_iald⟩))) (xB_n (xB_l ⟨_, zs_iconst (v := 1) em57_12 (by decide +kernel), as_const (by decide +kernel)⟩) (xB_n (xB_l ⟨_, zs_isub em57_13, as_bin fsub_ok⟩) (xB_l ⟨_, zs_iast zInj0 em57_14, as_iast zTie⟩))))) (xB_n (xB_n (xB_n (xB_l ⟨_, zs_aload_n em57_15, as_aload⟩) (xB_n (xB_l ⟨_, zs_getf (T := TX8) (M := 10) (ci := 8) (j := 0) em57_16 rfl inX8 (by decide) wd_320 ((congrFun xo_9 9).trans rfl), as_getf zTie⟩) (xB_l ⟨_, zs_iload_n em57_19, as_iload⟩))) (xB_n (xB_l ⟨_, zs_bipush (v := 8) em57_20 (by decide +kernel), as_const (by decide +kernel)⟩) (xB_n (xB_l ⟨_, zs_imul em57_22, as_bin fmul_ok⟩) (xB_l ⟨_, zs_iload_n em57_23, as_iload⟩)))) (xB_n (xB_n (xB_l ⟨_, zs_iadd em57_24, as_bin fadd_ok⟩) (xB_n (xB_l ⟨_, zs_dup2 em57_25, as_dup2⟩) (xB_l ⟨_, zs_iald em57_26, ag_iald⟩))) (xB_n (xB_l ⟨_, zs_iconst (v := 1) em57_27 (by decide +kernel), as_const (by decide +kernel)⟩) (xB_n (xB_l ⟨_, zs_iadd em57_28, as_bin fadd_ok⟩) (xB_l ⟨_, zs_iast zInj0 em57_29, as_iast zTie⟩))))))
set_option maxRecDepth 100000 in
set_option maxHeartbeats 4000000 in
theorem zM_61 : zOKa 61 zc_61 := z_auto (cuts := []) (rets := [(30, 3)]) (fuel := 1000) rfl rfl (by decide) (xrt_ok (xR_c (Or.inr (Or.inr (Or.inl ⟨rfl, em57_30, rfl⟩))) (xR_n))) (fun _ _ H _ hd => zTo_61 H hd) (by decide +kernel)
theorem em58_0 : decode prog_10_method_7_code 0 = .ok (.iconst 1, 1) := by decide +kernel
theorem em58_1 : decode prog_10_method_7_code 1 = .ok (.iload_n 1, 1) := by decide +kernel
theorem em58_2 : decode prog_10_method_7_code 2 = .ok (.ishl, 1) := by decide +kernel
theorem em58_3 : decode prog_10_method_7_code 3 = .ok (.iconst 1, 1) := by decide +kernel
theorem em58_4 : decode prog_10_method_7_code 4 = .ok (.isub, 1) := by decide +kernel
theorem em58_5 : decode prog_10_method_7_code 5 = .ok (.aload_n 0, 1) := by decide +kernel
theorem em58_6 : decode prog_10_method_7_code 6 = .ok (.getfield 44, 3) := by decide +kernel
theorem em58_9 : decode prog_10_method_7_code 9 = .ok (.aload_n 0, 1) := by decide +kernel
theorem em58_10 : decode prog_10_method_7_code 10 = .ok (.getfield 48, 3) := by decide +kernel
theorem em58_13 : decode prog_10_method_7_code 13 = .ok (.ior, 1) := by decide +kernel
theorem em58_14 : decode prog_10_method_7_code 14 = .ok (.iconst (-1), 1) := by decide +kernel
theorem em58_15 : decode prog_10_method_7_code 15 = .ok (.ixor, 1) := by decide +kernel
theorem em58_16 : decode prog_10_method_7_code 16 = .ok (.iand, 1) := by decide +kernel
theorem em58_17 : decode prog_10_method_7_code 17 = .ok (.ireturn, 1) := by decide +kernel
/-! CapitalCase$Town.open:(I)I -/
noncomputable def zTr_62 : Nat → Option aF := bn 6 (bn 3 (bn 1 (bl 0 (a_const 1 1)) (bn 2 (bl 1 (a_iload 1 2)) (bl 2 (a_bin fshl 3)))) (bn 4 (bl 3 (a_const 1 4)) (bn 5 (bl 4 (a_bin fsub 5)) (bl 5 (a_aload 0 6))))) (bn 13 (bn 9 (bl 6 (a_getf zG0 zT0 8 5 9)) (bn 10 (bl 9 (a_aload 0 10)) (bl 10 (a_getf zG0 zT0 8 6 13)))) (bn 15 (bn 14 (bl 13 (a_bin fany 14)) (bl 14 (a_const (-1) 15))) (bn 16 (bl 15 (a_bin fany 16)) (bl 16 (a_bin fand 17)))))
set_option maxRecDepth 100000 in
set_option maxHeartbeats 4000000 in
theorem zTo_62 {pre : zPre} {post : zPost} (H : zTieC pre post) {d : Nat × Nat × Nat} (hd : zLe (0, 0, 0) d) : aTr zG0 zT0 zInv (false, false) PZ zbd pre post d prog_10_method_7_code "CapitalCase$Town" zTr_62 := (xB_n (xB_n (xB_n (xB_l ⟨_, zs_iconst (v := 1) em58_0 (by decide +kernel), as_const (by decide +kernel)⟩) (xB_n (xB_l ⟨_, zs_iload_n em58_1, as_iload⟩) (xB_l ⟨_, zs_ishl em58_2, as_bin fshl_ok⟩))) (xB_n (xB_l ⟨_, zs_iconst (v := 1) em58_3 (by decide +kernel), as_const (by decide +kernel)⟩) (xB_n (xB_l ⟨_, zs_isub em58_4, as_bin fsub_ok⟩) (xB_l ⟨_, zs_aload_n em58_5, as_aload⟩)))) (xB_n (xB_n (xB_l ⟨_, zs_getf (T := TX8) (M := 10) (ci := 8) (j := 5) em58_6 rfl inX8 (by decide) wd_338 ((congrFun xo_9 44).trans rfl), as_getf zTie⟩) (xB_n (xB_l ⟨_, zs_aload_n em58_9, as_aload⟩) (xB_l ⟨_, zs_getf (T := TX8) (M := 10) (ci := 8) (j := 6) em58_10 rfl inX8 (by decide) wd_341 ((congrFun xo_9 48).trans rfl), as_getf zTie⟩))) (xB_n (xB_n (xB_l ⟨_, zs_ior em58_13, as_bin fany_ok⟩) (xB_l ⟨_, zs_iconst (v := (-1)) em58_14 (by decide +kernel), as_const (by decide +kernel)⟩)) (xB_n (xB_l ⟨_, zs_ixor em58_15, as_bin fany_ok⟩) (xB_l ⟨_, zs_iand em58_16, as_bin fand_ok⟩)))))
set_option maxRecDepth 100000 in
set_option maxHeartbeats 4000000 in
theorem zM_62 : zOKa 62 zc_62 := z_auto (cuts := []) (rets := [(17, 1)]) (fuel := 1000) rfl rfl (by decide) (xrt_ok (xR_c (Or.inl ⟨rfl, em58_17, rfl⟩) (xR_n))) (fun _ _ H _ hd => zTo_62 H hd) (by decide +kernel)
theorem em59_0 : decode prog_11_method_3_code 0 = .ok (.iconst 0, 1) := by decide +kernel
theorem em59_1 : decode prog_11_method_3_code 1 = .ok (.istore 4, 2) := by decide +kernel
theorem em59_3 : decode prog_11_method_3_code 3 = .ok (.iconst 0, 1) := by decide +kernel
theorem em59_4 : decode prog_11_method_3_code 4 = .ok (.istore 5, 2) := by decide +kernel
theorem em59_6 : decode prog_11_method_3_code 6 = .ok (.iload 5, 2) := by decide +kernel
theorem em59_8 : decode prog_11_method_3_code 8 = .ok (.aload_n 0, 1) := by decide +kernel
theorem em59_9 : decode prog_11_method_3_code 9 = .ok (.getfield 9, 3) := by decide +kernel
theorem em59_12 : decode prog_11_method_3_code 12 = .ok (.getfield 33, 3) := by decide +kernel
theorem em59_15 : decode prog_11_method_3_code 15 = .ok (.if_icmp .ge 35, 3) := by decide +kernel
theorem em59_18 : decode prog_11_method_3_code 18 = .ok (.iload 4, 2) := by decide +kernel
theorem em59_20 : decode prog_11_method_3_code 20 = .ok (.iload 5, 2) := by decide +kernel
theorem em59_22 : decode prog_11_method_3_code 22 = .ok (.iload_n 2, 1) := by decide +kernel
theorem em59_23 : decode prog_11_method_3_code 23 = .ok (.if_icmp .ne 7, 3) := by decide +kernel
theorem em59_26 : decode prog_11_method_3_code 26 = .ok (.iconst 0, 1) := by decide +kernel
theorem em59_27 : decode prog_11_method_3_code 27 = .ok (.goto 14, 3) := by decide +kernel
theorem em59_30 : decode prog_11_method_3_code 30 = .ok (.aload_n 1, 1) := by decide +kernel
theorem em59_31 : decode prog_11_method_3_code 31 = .ok (.iload 5, 2) := by decide +kernel
theorem em59_33 : decode prog_11_method_3_code 33 = .ok (.bipush 8, 2) := by decide +kernel
theorem em59_35 : decode prog_11_method_3_code 35 = .ok (.imul, 1) := by decide +kernel
theorem em59_36 : decode prog_11_method_3_code 36 = .ok (.iload_n 3, 1) := by decide +kernel
theorem em59_37 : decode prog_11_method_3_code 37 = .ok (.iadd, 1) := by decide +kernel
theorem em59_38 : decode prog_11_method_3_code 38 = .ok (.invokevirtual 37, 3) := by decide +kernel
theorem em59_41 : decode prog_11_method_3_code 41 = .ok (.iadd, 1) := by decide +kernel
theorem em59_42 : decode prog_11_method_3_code 42 = .ok (.istore 4, 2) := by decide +kernel
theorem em59_44 : decode prog_11_method_3_code 44 = .ok (.iinc 5 1, 3) := by decide +kernel
theorem em59_47 : decode prog_11_method_3_code 47 = .ok (.goto (-41), 3) := by decide +kernel
theorem em59_50 : decode prog_11_method_3_code 50 = .ok (.iload 4, 2) := by decide +kernel
theorem em59_52 : decode prog_11_method_3_code 52 = .ok (.ireturn, 1) := by decide +kernel
/-! CapitalCase$Trade.freeElsewhere:(LCapitalCase$Town;II)I -/
noncomputable def zTr_63 : Nat → Option aF := bn 26 (bn 9 (bn 4 (bn 1 (bl 0 (a_const 0 1)) (bn 3 (bl 1 (a_istore 4 3)) (bl 3 (a_const 0 4)))) (bn 6 (bl 4 (a_istore 5 6)) (bn 8 (bl 6 (a_iload 5 8)) (bl 8 (a_aload 0 9))))) (bn 18 (bn 12 (bl 9 (a_getf zG0 zT0 9 0 12)) (bn 15 (bl 12 (a_getf zG0 zT0 6 0 15)) (bl 15 (a_icmp 3 50 18)))) (bn 22 (bn 20 (bl 18 (a_iload 4 20)) (bl 20 (a_iload 5 22))) (bn 23 (bl 22 (a_iload 2 23)) (bl 23 (a_icmp 1 30 26)))))) (bn 37 (bn 31 (bn 27 (bl 26 (a_const 0 27)) (bn 30 (bl 27 (a_goto 41)) (bl 30 (a_aload 1 31)))) (bn 35 (bn 33 (bl 31 (a_iload 5 33)) (bl 33 (a_const 8 35))) (bn 36 (bl 35 (a_bin fmul 36)) (bl 36 (a_iload 3 37))))) (bn 42 (bn 38 (bl 37 (a_bin fadd 38)) (bn 41 (bl 38 (a_invV zG0 zprot (false, false) zc_55 (zbd 55) (1, 0, 0) 8 2 41)) (bl 41 (a_bin fadd 42)))) (bn 47 (bn 44 (bl 42 (a_istore 4 44)) (bl 44 (a_iinc 5 1 47))) (bn 50 (bl 47 (a_goto 6)) (bl 50 (a_iload 4 52))))))
set_option maxRecDepth 100000 in
set_option maxHeartbeats 4000000 in
theorem zTo_63 {pre : zPre} {post : zPost} (H : zTieC pre post) {d : Nat × Nat × Nat} (hd : zLe (1, 0, 0) d) : aTr zG0 zT0 zInv (false, false) PZ zbd pre post d prog_11_method_3_code "CapitalCase$Trade" zTr_63 := (xB_n (xB_n (xB_n (xB_n (xB_l ⟨_, zs_iconst (v := 0) em59_0 (by decide +kernel), as_const (by decide +kernel)⟩) (xB_n (xB_l ⟨_, zs_istore em59_1, as_istore⟩) (xB_l ⟨_, zs_iconst (v := 0) em59_3 (by decide +kernel), as_const (by decide +kernel)⟩))) (xB_n (xB_l ⟨_, zs_istore em59_4, as_istore⟩) (xB_n (xB_l ⟨_, zs_iload em59_6, as_iload⟩) (xB_l ⟨_, zs_aload_n em59_8, as_aload⟩)))) (xB_n (xB_n (xB_l ⟨_, zs_getf (T := TX9) (M := 3) (ci := 9) (j := 0) em59_9 rfl inX9 (by decide) wd_541 ((congrFun xo_10 9).trans rfl), as_getf zTie⟩) (xB_n (xB_l ⟨_, zs_getf (T := TX6) (M := 15) (ci := 6) (j := 0) em59_12 rfl inX6 (by decide) wd_163 ((congrFun xo_10 33).trans rfl), as_getf zTie⟩) (xB_l ⟨_, zs_icmpge em59_15 (t := 50) (by decide), as_icmp⟩))) (xB_n (xB_n (xB_l ⟨_, zs_iload em59_18, as_iload⟩) (xB_l ⟨_, zs_iload em59_20, as_iload⟩)) (xB_n (xB_l ⟨_, zs_iload_n em59_22, as_iload⟩) (xB_l ⟨_, zs_icmpne em59_23 (t := 30) (by decide), as_icmp⟩))))) (xB_n (xB_n (xB_n (xB_l ⟨_, zs_iconst (v := 0) em59_26 (by decide +kernel), as_const (by decide +kernel)⟩) (xB_n (xB_l ⟨_, zs_goto em59_27 (t := 41) (by decide), as_goto⟩) (xB_l ⟨_, zs_aload_n em59_30, as_aload⟩))) (xB_n (xB_n (xB_l ⟨_, zs_iload em59_31, as_iload⟩) (xB_l ⟨_, zs_bipush (v := 8) em59_33 (by decide +kernel), as_const (by decide +kernel)⟩)) (xB_n (xB_l ⟨_, zs_imul em59_35, as_bin fmul_ok⟩) (xB_l ⟨_, zs_iload_n em59_36, as_iload⟩)))) (xB_n (xB_n (xB_l ⟨_, zs_iadd em59_37, as_bin fadd_ok⟩) (xB_n (xB_l ⟨_, zs_invV (T := TX8) em59_38 zl_55 rfl wd_1138 wd_859 wd_860 ((congrFun xo_10 37).trans rfl) xm_51, ag_invV H zh_55 hd (by decide)⟩) (xB_l ⟨_, zs_iadd em59_41, as_bin fadd_ok⟩))) (xB_n (xB_n (xB_l ⟨_, zs_istore em59_42, as_istore⟩) (xB_l ⟨_, zs_iinc (k := 1) em59_44 (by decide +kernel), as_iinc (by decide +kernel)⟩)) (xB_n (xB_l ⟨_, zs_goto em59_47 (t := 6) (by decide), as_goto⟩) (xB_l ⟨_, zs_iload em59_50, as_iload⟩))))))
set_option maxRecDepth 100000 in
set_option maxHeartbeats 4000000 in
theorem zM_63 : zOKa 63 zc_63 := z_auto (cuts := [(6, ([(0, 0), (0, 4), (0, 7), (0, 5), ((-2147483648), 2147483647), (0, 5)], [], [some (.inr (.inl (0, 74))), some (.inr (.inl (1, 1000))), some (.inl (1, 0)), some (.inl (2, 0)), some (.inl (4, 0)), some (.inl (5, 0))], [], [(5, 3, 0)], (0, 0)), [(0, 4), (0, 5)], 5, [0, 0, 0, 0, 0, (-1)])]) (rets := [(52, 1)]) (fuel := 1000) rfl rfl (by decide) (xrt_ok (xR_c (Or.inl ⟨rfl, em59_52, rfl⟩) (xR_n))) (fun _ _ H _ hd => zTo_63 H hd) (by decide +kernel)
theorem em60_0 : decode prog_11_method_6_code 0 = .ok (.aload_n 0, 1) := by decide +kernel
theorem em60_1 : decode prog_11_method_6_code 1 = .ok (.aload_n 1, 1) := by decide +kernel
theorem em60_2 : decode prog_11_method_6_code 2 = .ok (.iload_n 2, 1) := by decide +kernel
theorem em60_3 : decode prog_11_method_6_code 3 = .ok (.iload_n 3, 1) := by decide +kernel
theorem em60_4 : decode prog_11_method_6_code 4 = .ok (.iload 4, 2) := by decide +kernel
theorem em60_6 : decode prog_11_method_6_code 6 = .ok (.invokevirtual 55, 3) := by decide +kernel
theorem em60_9 : decode prog_11_method_6_code 9 = .ok (.aload_n 0, 1) := by decide +kernel
theorem em60_10 : decode prog_11_method_6_code 10 = .ok (.aload_n 1, 1) := by decide +kernel
theorem em60_11 : decode prog_11_method_6_code 11 = .ok (.iload_n 2, 1) := by decide +kernel
theorem em60_12 : decode prog_11_method_6_code 12 = .ok (.iconst (-1), 1) := by decide +kernel
theorem em60_13 : decode prog_11_method_6_code 13 = .ok (.iconst (-1), 1) := by decide +kernel
theorem em60_14 : decode prog_11_method_6_code 14 = .ok (.invokevirtual 55, 3) := by decide +kernel
theorem em60_17 : decode prog_11_method_6_code 17 = .ok (.if_icmp .le 7, 3) := by decide +kernel
theorem em60_20 : decode prog_11_method_6_code 20 = .ok (.iconst 1, 1) := by decide +kernel
theorem em60_21 : decode prog_11_method_6_code 21 = .ok (.goto 4, 3) := by decide +kernel
theorem em60_24 : decode prog_11_method_6_code 24 = .ok (.iconst 0, 1) := by decide +kernel
theorem em60_25 : decode prog_11_method_6_code 25 = .ok (.ireturn, 1) := by decide +kernel
/-! CapitalCase$Trade.gains:(LCapitalCase$Town;III)Z -/
noncomputable def zTr_64 : Nat → Option aF := bn 11 (bn 4 (bn 2 (bn 1 (bl 0 (a_aload 0 1)) (bl 1 (a_aload 1 2))) (bn 3 (bl 2 (a_iload 2 3)) (bl 3 (a_iload 3 4)))) (bn 9 (bn 6 (bl 4 (a_iload 4 6)) (bl 6 (a_invV zG0 zprot (false, false) zc_68 (zbd 68) (2, 0, 0) 9 5 9))) (bn 10 (bl 9 (a_aload 0 10)) (bl 10 (a_aload 1 11))))) (bn 17 (bn 13 (bn 12 (bl 11 (a_iload 2 12)) (bl 12 (a_const (-1) 13))) (bn 14 (bl 13 (a_const (-1) 14)) (bl 14 (a_invV zG0 zprot (false, false) zc_68 (zbd 68) (2, 0, 0) 9 5 17)))) (bn 21 (bn 20 (bl 17 (a_icmp 5 24 20)) (bl 20 (a_const 1 21))) (bn 24 (bl 21 (a_goto 25)) (bl 24 (a_const 0 25)))))
set_option maxRecDepth 100000 in
set_option maxHeartbeats 4000000 in
theorem zTo_64 {pre : zPre} {post : zPost} (H : zTieC pre post) {d : Nat × Nat × Nat} (hd : zLe (2, 0, 0) d) : aTr zG0 zT0 zInv (false, false) PZ zbd pre post d prog_11_method_6_code "CapitalCase$Trade" zTr_64 := (xB_n (xB_n (xB_n (xB_n (xB_l ⟨_, zs_aload_n em60_0, as_aload⟩) (xB_l ⟨_, zs_aload_n em60_1, as_aload⟩)) (xB_n (xB_l ⟨_, zs_iload_n em60_2, as_iload⟩) (xB_l ⟨_, zs_iload_n em60_3, as_iload⟩))) (xB_n (xB_n (xB_l ⟨_, zs_iload em60_4, as_iload⟩) (xB_l ⟨_, zs_invV (T := TX9) em60_6 zl_68 rfl wd_1155 wd_1157 wd_41 ((congrFun xo_10 55).trans rfl) xm_64, ag_invV H zh_68 hd (by decide)⟩)) (xB_n (xB_l ⟨_, zs_aload_n em60_9, as_aload⟩) (xB_l ⟨_, zs_aload_n em60_10, as_aload⟩)))) (xB_n (xB_n (xB_n (xB_l ⟨_, zs_iload_n em60_11, as_iload⟩) (xB_l ⟨_, zs_iconst (v := (-1)) em60_12 (by decide +kernel), as_const (by decide +kernel)⟩)) (xB_n (xB_l ⟨_, zs_iconst (v := (-1)) em60_13 (by decide +kernel), as_const (by decide +kernel)⟩) (xB_l ⟨_, zs_invV (T := TX9) em60_14 zl_68 rfl wd_1155 wd_1157 wd_41 ((congrFun xo_10 55).trans rfl) xm_64, ag_invV H zh_68 hd (by decide)⟩))) (xB_n (xB_n (xB_l ⟨_, zs_icmple em60_17 (t := 24) (by decide), as_icmp⟩) (xB_l ⟨_, zs_iconst (v := 1) em60_20 (by decide +kernel), as_const (by decide +kernel)⟩)) (xB_n (xB_l ⟨_, zs_goto em60_21 (t := 25) (by decide), as_goto⟩) (xB_l ⟨_, zs_iconst (v := 0) em60_24 (by decide +kernel), as_const (by decide +kernel)⟩)))))
set_option maxRecDepth 100000 in
set_option maxHeartbeats 4000000 in
theorem zM_64 : zOKa 64 zc_64 := z_auto (cuts := []) (rets := [(25, 2)]) (fuel := 1000) rfl rfl (by decide) (xrt_ok (xR_c (Or.inr (Or.inl ⟨rfl, em60_25, rfl⟩)) (xR_n))) (fun _ _ H _ hd => zTo_64 H hd) (by decide +kernel)
theorem em61_0 : decode prog_11_method_2_code 0 = .ok (.iconst 0, 1) := by decide +kernel
theorem em61_1 : decode prog_11_method_2_code 1 = .ok (.istore 4, 2) := by decide +kernel
theorem em61_3 : decode prog_11_method_2_code 3 = .ok (.iconst 0, 1) := by decide +kernel
theorem em61_4 : decode prog_11_method_2_code 4 = .ok (.istore 5, 2) := by decide +kernel
theorem em61_6 : decode prog_11_method_2_code 6 = .ok (.iload 5, 2) := by decide +kernel
theorem em61_8 : decode prog_11_method_2_code 8 = .ok (.bipush 8, 2) := by decide +kernel
theorem em61_10 : decode prog_11_method_2_code 10 = .ok (.if_icmp .ge 91, 3) := by decide +kernel
theorem em61_13 : decode prog_11_method_2_code 13 = .ok (.aload_n 0, 1) := by decide +kernel
theorem em61_14 : decode prog_11_method_2_code 14 = .ok (.getfield 9, 3) := by decide +kernel
theorem em61_17 : decode prog_11_method_2_code 17 = .ok (.getfield 15, 3) := by decide +kernel
theorem em61_20 : decode prog_11_method_2_code 20 = .ok (.iload_n 3, 1) := by decide +kernel
theorem em61_21 : decode prog_11_method_2_code 21 = .ok (.bipush 8, 2) := by decide +kernel
theorem em61_23 : decode prog_11_method_2_code 23 = .ok (.imul, 1) := by decide +kernel
theorem em61_24 : decode prog_11_method_2_code 24 = .ok (.iload 5, 2) := by decide +kernel
theorem em61_26 : decode prog_11_method_2_code 26 = .ok (.iadd, 1) := by decide +kernel
theorem em61_27 : decode prog_11_method_2_code 27 = .ok (.iaload, 1) := by decide +kernel
theorem em61_28 : decode prog_11_method_2_code 28 = .ok (.istore 6, 2) := by decide +kernel
theorem em61_30 : decode prog_11_method_2_code 30 = .ok (.iload_n 2, 1) := by decide +kernel
theorem em61_31 : decode prog_11_method_2_code 31 = .ok (.bipush 8, 2) := by decide +kernel
theorem em61_33 : decode prog_11_method_2_code 33 = .ok (.imul, 1) := by decide +kernel
theorem em61_34 : decode prog_11_method_2_code 34 = .ok (.iload 5, 2) := by decide +kernel
theorem em61_36 : decode prog_11_method_2_code 36 = .ok (.iadd, 1) := by decide +kernel
theorem em61_37 : decode prog_11_method_2_code 37 = .ok (.istore 7, 2) := by decide +kernel
theorem em61_39 : decode prog_11_method_2_code 39 = .ok (.iload 6, 2) := by decide +kernel
theorem em61_41 : decode prog_11_method_2_code 41 = .ok (.aload_n 1, 1) := by decide +kernel
theorem em61_42 : decode prog_11_method_2_code 42 = .ok (.getfield 21, 3) := by decide +kernel
theorem em61_45 : decode prog_11_method_2_code 45 = .ok (.iload 7, 2) := by decide +kernel
theorem em61_47 : decode prog_11_method_2_code 47 = .ok (.iaload, 1) := by decide +kernel
theorem em61_48 : decode prog_11_method_2_code 48 = .ok (.aload_n 1, 1) := by decide +kernel
theorem em61_49 : decode prog_11_method_2_code 49 = .ok (.getfield 26, 3) := by decide +kernel
theorem em61_52 : decode prog_11_method_2_code 52 = .ok (.iload 7, 2) := by decide +kernel
theorem em61_54 : decode prog_11_method_2_code 54 = .ok (.iaload, 1) := by decide +kernel
theorem em61_55 : decode prog_11_method_2_code 55 = .ok (.isub, 1) := by decide +kernel
theorem em61_56 : decode prog_11_method_2_code 56 = .ok (.isub, 1) := by decide +kernel
theorem em61_57 : decode prog_11_method_2_code 57 = .ok (.istore 8, 2) := by decide +kernel
theorem em61_59 : decode prog_11_method_2_code 59 = .ok (.iload 6, 2) := by decide +kernel
theorem em61_61 : decode prog_11_method_2_code 61 = .ok (.ifCond .eq 34, 3) := by decide +kernel
theorem em61_64 : decode prog_11_method_2_code 64 = .ok (.iload 8, 2) := by decide +kernel
theorem em61_66 : decode prog_11_method_2_code 66 = .ok (.ifCond .gt 6, 3) := by decide +kernel
theorem em61_69 : decode prog_11_method_2_code 69 = .ok (.goto 26, 3) := by decide +kernel
theorem em61_72 : decode prog_11_method_2_code 72 = .ok (.aload_n 0, 1) := by decide +kernel
theorem em61_73 : decode prog_11_method_2_code 73 = .ok (.aload_n 1, 1) := by decide +kernel
theorem em61_74 : decode prog_11_method_2_code 74 = .ok (.iload_n 2, 1) := by decide +kernel
theorem em61_75 : decode prog_11_method_2_code 75 = .ok (.iload 5, 2) := by decide +kernel
theorem em61_77 : decode prog_11_method_2_code 77 = .ok (.invokevirtual 29, 3) := by decide +kernel
theorem em61_80 : decode prog_11_method_2_code 80 = .ok (.iload 8, 2) := by decide +kernel
theorem em61_82 : decode prog_11_method_2_code 82 = .ok (.if_icmp .ge 6, 3) := by decide +kernel
theorem em61_85 : decode prog_11_method_2_code 85 = .ok (.bipush (-2), 2) := by decide +kernel
theorem em61_87 : decode prog_11_method_2_code 87 = .ok (.ireturn, 1) := by decide +kernel
theorem em61_88 : decode prog_11_method_2_code 88 = .ok (.iload 4, 2) := by decide +kernel
theorem em61_90 : decode prog_11_method_2_code 90 = .ok (.iload 8, 2) := by decide +kernel
theorem em61_92 : decode prog_11_method_2_code 92 = .ok (.iadd, 1) := by decide +kernel
theorem em61_93 : decode prog_11_method_2_code 93 = .ok (.istore 4, 2) := by decide +kernel
theorem em61_95 : decode prog_11_method_2_code 95 = .ok (.iinc 5 1, 3) := by decide +kernel
theorem em61_98 : decode prog_11_method_2_code 98 = .ok (.goto (-92), 3) := by decide +kernel
theorem em61_101 : decode prog_11_method_2_code 101 = .ok (.iload 4, 2) := by decide +kernel
theorem em61_103 : decode prog_11_method_2_code 103 = .ok (.ireturn, 1) := by decide +kernel
/-! CapitalCase$Trade.loansFor:(LCapitalCase$Town;II)I -/
noncomputable def zTr_65 : Nat → Option aF := bn 47 (bn 24 (bn 10 (bn 4 (bn 1 (bl 0 (a_const 0 1)) (bn 3 (bl 1 (a_istore 4 3)) (bl 3 (a_const 0 4)))) (bn 6 (bl 4 (a_istore 5 6)) (bn 8 (bl 6 (a_iload 5 8)) (bl 8 (a_const 8 10))))) (bn 17 (bn 13 (bl 10 (a_icmp 3 101 13)) (bn 14 (bl 13 (a_aload 0 14)) (bl 14 (a_getf zG0 zT0 9 0 17)))) (bn 21 (bn 20 (bl 17 (a_getf zG0 zT0 6 10 20)) (bl 20 (a_iload 3 21))) (bn 23 (bl 21 (a_const 8 23)) (bl 23 (a_bin fmul 24)))))) (bn 34 (bn 28 (bn 26 (bl 24 (a_iload 5 26)) (bn 27 (bl 26 (a_bin fadd 27)) (bl 27 (a_ald zG0 zT0 (false, false) ts0 28)))) (bn 31 (bn 30 (bl 28 (a_istore 6 30)) (bl 30 (a_iload 2 31))) (bn 33 (bl 31 (a_const 8 33)) (bl 33 (a_bin fmul 34))))) (bn 39 (bn 36 (bl 34 (a_iload 5 36)) (bn 37 (bl 36 (a_bin fadd 37)) (bl 37 (a_istore 7 39)))) (bn 42 (bn 41 (bl 39 (a_iload 6 41)) (bl 41 (a_aload 1 42))) (bn 45 (bl 42 (a_getf zG0 zT0 8 0 45)) (bl 45 (a_iload 7 47))))))) (bn 73 (bn 57 (bn 52 (bn 48 (bl 47 (a_ald zG0 zT0 (false, false) ts0 48)) (bn 49 (bl 48 (a_aload 1 49)) (bl 49 (a_getf zG0 zT0 8 1 52)))) (bn 55 (bn 54 (bl 52 (a_iload 7 54)) (bl 54 (a_ald zG0 zT0 (false, false) ts0 55))) (bn 56 (bl 55 (a_bin fsub 56)) (bl 56 (a_bin fsub 57))))) (bn 64 (bn 59 (bl 57 (a_istore 8 59)) (bn 61 (bl 59 (a_iload 6 61)) (bl 61 (a_if 0 95 64)))) (bn 69 (bn 66 (bl 64 (a_iload 8 66)) (bl 66 (a_if 4 72 69))) (bn 72 (bl 69 (a_goto 95)) (bl 72 (a_aload 0 73)))))) (bn 88 (bn 77 (bn 74 (bl 73 (a_aload 1 74)) (bn 75 (bl 74 (a_iload 2 75)) (bl 75 (a_iload 5 77)))) (bn 82 (bn 80 (bl 77 (a_invV zG0 zprot (false, false) zc_63 (zbd 63) (2, 0, 0) 9 4 80)) (bl 80 (a_iload 8 82))) (bn 85 (bl 82 (a_icmp 3 88 85)) (bl 85 (a_const (-2) 87))))) (bn 93 (bn 90 (bl 88 (a_iload 4 90)) (bn 92 (bl 90 (a_iload 8 92)) (bl 92 (a_bin fadd 93)))) (bn 98 (bn 95 (bl 93 (a_istore 4 95)) (bl 95 (a_iinc 5 1 98))) (bn 101 (bl 98 (a_goto 6)) (bl 101 (a_iload 4 103)))))))
set_option maxRecDepth 100000 in
set_option maxHeartbeats 4000000 in
theorem zTo_65 {pre : zPre} {post : zPost} (H : zTieC pre post) {d : Nat × Nat × Nat} (hd : zLe (2, 0, 0) d) : aTr zG0 zT0 zInv (false, false) PZ zbd pre post d prog_11_method_2_code "CapitalCase$Trade" zTr_65 := (xB_n (xB_n (xB_n (xB_n (xB_n (xB_l ⟨_, zs_iconst (v := 0) em61_0 (by decide +kernel), as_const (by decide +kernel)⟩) (xB_n (xB_l ⟨_, zs_istore em61_1, as_istore⟩) (xB_l ⟨_, zs_iconst (v := 0) em61_3 (by decide +kernel), as_const (by decide +kernel)⟩))) (xB_n (xB_l ⟨_, zs_istore em61_4, as_istore⟩) (xB_n (xB_l ⟨_, zs_iload em61_6, as_iload⟩) (xB_l ⟨_, zs_bipush (v := 8) em61_8 (by decide +kernel), as_const (by decide +kernel)⟩)))) (xB_n (xB_n (xB_l ⟨_, zs_icmpge em61_10 (t := 101) (by decide), as_icmp⟩) (xB_n (xB_l ⟨_, zs_aload_n em61_13, as_aload⟩) (xB_l ⟨_, zs_getf (T := TX9) (M := 3) (ci := 9) (j := 0) em61_14 rfl inX9 (by decide) wd_541 ((congrFun xo_10 9).trans rfl), as_getf zTie⟩))) (xB_n (xB_n (xB_l ⟨_, zs_getf (T := TX6) (M := 15) (ci := 6) (j := 10) em61_17 rfl inX6 (by decide) wd_208 ((congrFun xo_10 15).trans rfl), as_getf zTie⟩) (xB_l ⟨_, zs_iload_n em61_20, as_iload⟩)) (xB_n (xB_l ⟨_, zs_bipush (v := 8) em61_21 (by decide +kernel), as_const (by decide +kernel)⟩) (xB_l ⟨_, zs_imul em61_23, as_bin fmul_ok⟩))))) (xB_n (xB_n (xB_n (xB_l ⟨_, zs_iload em61_24, as_iload⟩) (xB_n (xB_l ⟨_, zs_iadd em61_26, as_bin fadd_ok⟩) (xB_l ⟨_, zs_iald em61_27, ag_iald⟩))) (xB_n (xB_n (xB_l ⟨_, zs_istore em61_28, as_istore⟩) (xB_l ⟨_, zs_iload_n em61_30, as_iload⟩)) (xB_n (xB_l ⟨_, zs_bipush (v := 8) em61_31 (by decide +kernel), as_const (by decide +kernel)⟩) (xB_l ⟨_, zs_imul em61_33, as_bin fmul_ok⟩)))) (xB_n (xB_n (xB_l ⟨_, zs_iload em61_34, as_iload⟩) (xB_n (xB_l ⟨_, zs_iadd em61_36, as_bin fadd_ok⟩) (xB_l ⟨_, zs_istore em61_37, as_istore⟩))) (xB_n (xB_n (xB_l ⟨_, zs_iload em61_39, as_iload⟩) (xB_l ⟨_, zs_aload_n em61_41, as_aload⟩)) (xB_n (xB_l ⟨_, zs_getf (T := TX8) (M := 10) (ci := 8) (j := 0) em61_42 rfl inX8 (by decide) wd_321 ((congrFun xo_10 21).trans rfl), as_getf zTie⟩) (xB_l ⟨_, zs_iload em61_45, as_iload⟩)))))) (xB_n (xB_n (xB_n (xB_n (xB_l ⟨_, zs_iald em61_47, ag_iald⟩) (xB_n (xB_l ⟨_, zs_aload_n em61_48, as_aload⟩) (xB_l ⟨_, zs_getf (T := TX8) (M := 10) (ci := 8) (j := 1) em61_49 rfl inX8 (by decide) wd_326 ((congrFun xo_10 26).trans rfl), as_getf zTie⟩))) (xB_n (xB_n (xB_l ⟨_, zs_iload em61_52, as_iload⟩) (xB_l ⟨_, zs_iald em61_54, ag_iald⟩)) (xB_n (xB_l ⟨_, zs_isub em61_55, as_bin fsub_ok⟩) (xB_l ⟨_, zs_isub em61_56, as_bin fsub_ok⟩)))) (xB_n (xB_n (xB_l ⟨_, zs_istore em61_57, as_istore⟩) (xB_n (xB_l ⟨_, zs_iload em61_59, as_iload⟩) (xB_l ⟨_, zs_ifeq em61_61 (t := 95) (by decide), as_if⟩))) (xB_n (xB_n (xB_l ⟨_, zs_iload em61_64, as_iload⟩) (xB_l ⟨_, zs_ifgt em61_66 (t := 72) (by decide), as_if⟩)) (xB_n (xB_l ⟨_, zs_goto em61_69 (t := 95) (by decide), as_goto⟩) (xB_l ⟨_, zs_aload_n em61_72, as_aload⟩))))) (xB_n (xB_n (xB_n (xB_l ⟨_, zs_aload_n em61_73, as_aload⟩) (xB_n (xB_l ⟨_, zs_iload_n em61_74, as_iload⟩) (xB_l ⟨_, zs_iload em61_75, as_iload⟩))) (xB_n (xB_n (xB_l ⟨_, zs_invV (T := TX9) em61_77 zl_63 rfl wd_1134 wd_1136 wd_38 ((congrFun xo_10 29).trans rfl) xm_59, ag_invV H zh_63 hd (by decide)⟩) (xB_l ⟨_, zs_iload em61_80, as_iload⟩)) (xB_n (xB_l ⟨_, zs_icmpge em61_82 (t := 88) (by decide), as_icmp⟩) (xB_l ⟨_, zs_bipush (v := (-2)) em61_85 (by decide +kernel), as_const (by decide +kernel)⟩)))) (xB_n (xB_n (xB_l ⟨_, zs_iload em61_88, as_iload⟩) (xB_n (xB_l ⟨_, zs_iload em61_90, as_iload⟩) (xB_l ⟨_, zs_iadd em61_92, as_bin fadd_ok⟩))) (xB_n (xB_n (xB_l ⟨_, zs_istore em61_93, as_istore⟩) (xB_l ⟨_, zs_iinc (k := 1) em61_95 (by decide +kernel), as_iinc (by decide +kernel)⟩)) (xB_n (xB_l ⟨_, zs_goto em61_98 (t := 6) (by decide), as_goto⟩) (xB_l ⟨_, zs_iload em61_101, as_iload⟩)))))))
set_option maxRecDepth 100000 in
set_option maxHeartbeats 4000000 in
theorem zM_65 : zOKa 65 zc_65 := z_auto (cuts := [(6, ([(0, 0), (0, 4), (0, 6), (0, 5), ((-2147483648), 2147483647), (0, 8)], [], [some (.inr (.inl (0, 74))), some (.inr (.inl (1, 1000))), some (.inl (1, 0)), some (.inl (2, 0)), some (.inl (4, 0)), some (.inl (5, 0)), none, none, none], [], [(5, 3, 0)], (0, 0)), [(0, 4), (0, 5)], 8, [0, 0, 0, 0, 0, (-1)])]) (rets := [(87, 1), (103, 1)]) (fuel := 1000) rfl rfl (by decide) (xrt_ok (xR_c (Or.inl ⟨rfl, em61_87, rfl⟩) (xR_c (Or.inl ⟨rfl, em61_103, rfl⟩) (xR_n)))) (fun _ _ H _ hd => zTo_65 H hd) (by decide +kernel)
theorem em62_0 : decode prog_11_method_4_code 0 = .ok (.aload_n 0, 1) := by decide +kernel
theorem em62_1 : decode prog_11_method_4_code 1 = .ok (.iconst 0, 1) := by decide +kernel
theorem em62_2 : decode prog_11_method_4_code 2 = .ok (.putfield 41, 3) := by decide +kernel
theorem em62_5 : decode prog_11_method_4_code 5 = .ok (.aload_n 0, 1) := by decide +kernel
theorem em62_6 : decode prog_11_method_4_code 6 = .ok (.bipush (-2), 2) := by decide +kernel
theorem em62_8 : decode prog_11_method_4_code 8 = .ok (.putfield 44, 3) := by decide +kernel
theorem em62_11 : decode prog_11_method_4_code 11 = .ok (.iconst 0, 1) := by decide +kernel
theorem em62_12 : decode prog_11_method_4_code 12 = .ok (.istore_n 2, 1) := by decide +kernel
theorem em62_13 : decode prog_11_method_4_code 13 = .ok (.iload_n 2, 1) := by decide +kernel
theorem em62_14 : decode prog_11_method_4_code 14 = .ok (.aload_n 0, 1) := by decide +kernel
theorem em62_15 : decode prog_11_method_4_code 15 = .ok (.getfield 9, 3) := by decide +kernel
theorem em62_18 : decode prog_11_method_4_code 18 = .ok (.getfield 33, 3) := by decide +kernel
theorem em62_21 : decode prog_11_method_4_code 21 = .ok (.if_icmp .ge 37, 3) := by decide +kernel
theorem em62_24 : decode prog_11_method_4_code 24 = .ok (.iload_n 2, 1) := by decide +kernel
theorem em62_25 : decode prog_11_method_4_code 25 = .ok (.iconst 1, 1) := by decide +kernel
theorem em62_26 : decode prog_11_method_4_code 26 = .ok (.iadd, 1) := by decide +kernel
theorem em62_27 : decode prog_11_method_4_code 27 = .ok (.istore_n 3, 1) := by decide +kernel
theorem em62_28 : decode prog_11_method_4_code 28 = .ok (.iload_n 3, 1) := by decide +kernel
theorem em62_29 : decode prog_11_method_4_code 29 = .ok (.aload_n 0, 1) := by decide +kernel
theorem em62_30 : decode prog_11_method_4_code 30 = .ok (.getfield 9, 3) := by decide +kernel
theorem em62_33 : decode prog_11_method_4_code 33 = .ok (.getfield 33, 3) := by decide +kernel
theorem em62_36 : decode prog_11_method_4_code 36 = .ok (.if_icmp .ge 16, 3) := by decide +kernel
theorem em62_39 : decode prog_11_method_4_code 39 = .ok (.aload_n 0, 1) := by decide +kernel
theorem em62_40 : decode prog_11_method_4_code 40 = .ok (.aload_n 1, 1) := by decide +kernel
theorem em62_41 : decode prog_11_method_4_code 41 = .ok (.iload_n 2, 1) := by decide +kernel
theorem em62_42 : decode prog_11_method_4_code 42 = .ok (.iload_n 3, 1) := by decide +kernel
theorem em62_43 : decode prog_11_method_4_code 43 = .ok (.invokevirtual 47, 3) := by decide +kernel
theorem em62_46 : decode prog_11_method_4_code 46 = .ok (.iinc 3 1, 3) := by decide +kernel
theorem em62_49 : decode prog_11_method_4_code 49 = .ok (.goto (-21), 3) := by decide +kernel
theorem em62_52 : decode prog_11_method_4_code 52 = .ok (.iinc 2 1, 3) := by decide +kernel
theorem em62_55 : decode prog_11_method_4_code 55 = .ok (.goto (-42), 3) := by decide +kernel
theorem em62_58 : decode prog_11_method_4_code 58 = .ok (.return_, 1) := by decide +kernel
/-! CapitalCase$Trade.seekBargains:(LCapitalCase$Town;)V -/
noncomputable def zTr_66 : Nat → Option aF := bn 26 (bn 12 (bn 5 (bn 1 (bl 0 (a_aload 0 1)) (bn 2 (bl 1 (a_const 0 2)) (bl 2 (a_puti zG0 zT0 zprot 9 1 0 5)))) (bn 8 (bn 6 (bl 5 (a_aload 0 6)) (bl 6 (a_const (-2) 8))) (bn 11 (bl 8 (a_puti zG0 zT0 zprot 9 2 0 11)) (bl 11 (a_const 0 12))))) (bn 18 (bn 14 (bn 13 (bl 12 (a_istore 2 13)) (bl 13 (a_iload 2 14))) (bn 15 (bl 14 (a_aload 0 15)) (bl 15 (a_getf zG0 zT0 9 0 18)))) (bn 24 (bn 21 (bl 18 (a_getf zG0 zT0 6 0 21)) (bl 21 (a_icmp 3 58 24))) (bn 25 (bl 24 (a_iload 2 25)) (bl 25 (a_const 1 26)))))) (bn 40 (bn 30 (bn 28 (bn 27 (bl 26 (a_bin fadd 27)) (bl 27 (a_istore 3 28))) (bn 29 (bl 28 (a_iload 3 29)) (bl 29 (a_aload 0 30)))) (bn 36 (bn 33 (bl 30 (a_getf zG0 zT0 9 0 33)) (bl 33 (a_getf zG0 zT0 6 0 36))) (bn 39 (bl 36 (a_icmp 3 52 39)) (bl 39 (a_aload 0 40))))) (bn 46 (bn 42 (bn 41 (bl 40 (a_aload 1 41)) (bl 41 (a_iload 2 42))) (bn 43 (bl 42 (a_iload 3 43)) (bl 43 (a_invV zG0 zprot (false, false) zc_67 (zbd 67) (4, 0, 0) 9 4 46)))) (bn 52 (bn 49 (bl 46 (a_iinc 3 1 49)) (bl 49 (a_goto 28))) (bn 55 (bl 52 (a_iinc 2 1 55)) (bl 55 (a_goto 13))))))
set_option maxRecDepth 100000 in
set_option maxHeartbeats 4000000 in
theorem zTo_66 {pre : zPre} {post : zPost} (H : zTieC pre post) {d : Nat × Nat × Nat} (hd : zLe (4, 0, 0) d) : aTr zG0 zT0 zInv (false, false) PZ zbd pre post d prog_11_method_4_code "CapitalCase$Trade" zTr_66 := (xB_n (xB_n (xB_n (xB_n (xB_l ⟨_, zs_aload_n em62_0, as_aload⟩) (xB_n (xB_l ⟨_, zs_iconst (v := 0) em62_1 (by decide +kernel), as_const (by decide +kernel)⟩) (xB_l ⟨_, zs_puti zInj0 (T := TX9) (M := 3) (ty := tyX9) (ci := 9) (j := 1) (kd := 0) em62_2 rfl inX9 tyX9_ok nmX9 (by decide) wd_542 (Or.inl ⟨rfl, rfl⟩) rfl ((congrFun xo_10 41).trans rfl), ag_puti0⟩))) (xB_n (xB_n (xB_l ⟨_, zs_aload_n em62_5, as_aload⟩) (xB_l ⟨_, zs_bipush (v := (-2)) em62_6 (by decide +kernel), as_const (by decide +kernel)⟩)) (xB_n (xB_l ⟨_, zs_puti zInj0 (T := TX9) (M := 3) (ty := tyX9) (ci := 9) (j := 2) (kd := 0) em62_8 rfl inX9 tyX9_ok nmX9 (by decide) wd_544 (Or.inl ⟨rfl, rfl⟩) rfl ((congrFun xo_10 44).trans rfl), ag_puti0⟩) (xB_l ⟨_, zs_iconst (v := 0) em62_11 (by decide +kernel), as_const (by decide +kernel)⟩)))) (xB_n (xB_n (xB_n (xB_l ⟨_, zs_istore_n em62_12, as_istore⟩) (xB_l ⟨_, zs_iload_n em62_13, as_iload⟩)) (xB_n (xB_l ⟨_, zs_aload_n em62_14, as_aload⟩) (xB_l ⟨_, zs_getf (T := TX9) (M := 3) (ci := 9) (j := 0) em62_15 rfl inX9 (by decide) wd_541 ((congrFun xo_10 9).trans rfl), as_getf zTie⟩))) (xB_n (xB_n (xB_l ⟨_, zs_getf (T := TX6) (M := 15) (ci := 6) (j := 0) em62_18 rfl inX6 (by decide) wd_163 ((congrFun xo_10 33).trans rfl), as_getf zTie⟩) (xB_l ⟨_, zs_icmpge em62_21 (t := 58) (by decide), as_icmp⟩)) (xB_n (xB_l ⟨_, zs_iload_n em62_24, as_iload⟩) (xB_l ⟨_, zs_iconst (v := 1) em62_25 (by decide +kernel), as_const (by decide +kernel)⟩))))) (xB_n (xB_n (xB_n (xB_n (xB_l ⟨_, zs_iadd em62_26, as_bin fadd_ok⟩) (xB_l ⟨_, zs_istore_n em62_27, as_istore⟩)) (xB_n (xB_l ⟨_, zs_iload_n em62_28, as_iload⟩) (xB_l ⟨_, zs_aload_n em62_29, as_aload⟩))) (xB_n (xB_n (xB_l ⟨_, zs_getf (T := TX9) (M := 3) (ci := 9) (j := 0) em62_30 rfl inX9 (by decide) wd_541 ((congrFun xo_10 9).trans rfl), as_getf zTie⟩) (xB_l ⟨_, zs_getf (T := TX6) (M := 15) (ci := 6) (j := 0) em62_33 rfl inX6 (by decide) wd_163 ((congrFun xo_10 33).trans rfl), as_getf zTie⟩)) (xB_n (xB_l ⟨_, zs_icmpge em62_36 (t := 52) (by decide), as_icmp⟩) (xB_l ⟨_, zs_aload_n em62_39, as_aload⟩)))) (xB_n (xB_n (xB_n (xB_l ⟨_, zs_aload_n em62_40, as_aload⟩) (xB_l ⟨_, zs_iload_n em62_41, as_iload⟩)) (xB_n (xB_l ⟨_, zs_iload_n em62_42, as_iload⟩) (xB_l ⟨_, zs_invV (T := TX9) em62_43 zl_67 rfl wd_1147 wd_1149 wd_39 ((congrFun xo_10 47).trans rfl) xm_63, ag_invV H zh_67 hd (by decide)⟩))) (xB_n (xB_n (xB_l ⟨_, zs_iinc (k := 1) em62_46 (by decide +kernel), as_iinc (by decide +kernel)⟩) (xB_l ⟨_, zs_goto em62_49 (t := 28) (by decide), as_goto⟩)) (xB_n (xB_l ⟨_, zs_iinc (k := 1) em62_52 (by decide +kernel), as_iinc (by decide +kernel)⟩) (xB_l ⟨_, zs_goto em62_55 (t := 13) (by decide), as_goto⟩))))))
set_option maxRecDepth 100000 in
set_option maxHeartbeats 4000000 in
theorem zM_66 : zOKa 66 zc_66 := z_auto (cuts := [(13, ([(0, 0), (0, 5), (0, 7), (0, 5)], [], [some (.inr (.inl (0, 74))), some (.inr (.inl (1, 1000))), some (.inl (3, 0)), none], [], [(5, 1, 0), (6, 2, 0)], (0, 0)), [(0, 2)], 35, [0, 0, 0, (-6)]), (28, ([(0, 0), (0, 5), (0, 7), (0, 4), (1, 5)], [], [some (.inr (.inl (0, 74))), some (.inr (.inl (1, 1000))), some (.inl (3, 0)), some (.inl (4, 0))], [], [(5, 1, 0), (6, 2, 0)], (0, 0)), [(0, 2), (0, 3)], 35, [0, 0, 0, (-6), (-1)])]) (rets := [(58, 3)]) (fuel := 1000) rfl rfl (by decide) (xrt_ok (xR_c (Or.inr (Or.inr (Or.inl ⟨rfl, em62_58, rfl⟩))) (xR_n))) (fun _ _ H _ hd => zTo_66 H hd) (by decide +kernel)
theorem em63_0 : decode prog_11_method_5_code 0 = .ok (.iconst 0, 1) := by decide +kernel
theorem em63_1 : decode prog_11_method_5_code 1 = .ok (.istore 4, 2) := by decide +kernel
theorem em63_3 : decode prog_11_method_5_code 3 = .ok (.iload 4, 2) := by decide +kernel
theorem em63_5 : decode prog_11_method_5_code 5 = .ok (.bipush 8, 2) := by decide +kernel
theorem em63_7 : decode prog_11_method_5_code 7 = .ok (.if_icmp .ge 133, 3) := by decide +kernel
theorem em63_10 : decode prog_11_method_5_code 10 = .ok (.iconst 0, 1) := by decide +kernel
theorem em63_11 : decode prog_11_method_5_code 11 = .ok (.istore 5, 2) := by decide +kernel
theorem em63_13 : decode prog_11_method_5_code 13 = .ok (.iload 5, 2) := by decide +kernel
theorem em63_15 : decode prog_11_method_5_code 15 = .ok (.bipush 8, 2) := by decide +kernel
theorem em63_17 : decode prog_11_method_5_code 17 = .ok (.if_icmp .ge 117, 3) := by decide +kernel
theorem em63_20 : decode prog_11_method_5_code 20 = .ok (.iload 4, 2) := by decide +kernel
theorem em63_22 : decode prog_11_method_5_code 22 = .ok (.iload 5, 2) := by decide +kernel
theorem em63_24 : decode prog_11_method_5_code 24 = .ok (.if_icmp .eq 104, 3) := by decide +kernel
theorem em63_27 : decode prog_11_method_5_code 27 = .ok (.aload_n 1, 1) := by decide +kernel
theorem em63_28 : decode prog_11_method_5_code 28 = .ok (.iload_n 2, 1) := by decide +kernel
theorem em63_29 : decode prog_11_method_5_code 29 = .ok (.bipush 8, 2) := by decide +kernel
theorem em63_31 : decode prog_11_method_5_code 31 = .ok (.imul, 1) := by decide +kernel
theorem em63_32 : decode prog_11_method_5_code 32 = .ok (.iload 4, 2) := by decide +kernel
theorem em63_34 : decode prog_11_method_5_code 34 = .ok (.iadd, 1) := by decide +kernel
theorem em63_35 : decode prog_11_method_5_code 35 = .ok (.invokevirtual 37, 3) := by decide +kernel
theorem em63_38 : decode prog_11_method_5_code 38 = .ok (.ifCond .le 90, 3) := by decide +kernel
theorem em63_41 : decode prog_11_method_5_code 41 = .ok (.aload_n 1, 1) := by decide +kernel
theorem em63_42 : decode prog_11_method_5_code 42 = .ok (.iload_n 3, 1) := by decide +kernel
theorem em63_43 : decode prog_11_method_5_code 43 = .ok (.bipush 8, 2) := by decide +kernel
theorem em63_45 : decode prog_11_method_5_code 45 = .ok (.imul, 1) := by decide +kernel
theorem em63_46 : decode prog_11_method_5_code 46 = .ok (.iload 5, 2) := by decide +kernel
theorem em63_48 : decode prog_11_method_5_code 48 = .ok (.iadd, 1) := by decide +kernel
theorem em63_49 : decode prog_11_method_5_code 49 = .ok (.invokevirtual 37, 3) := by decide +kernel
theorem em63_52 : decode prog_11_method_5_code 52 = .ok (.ifCond .le 76, 3) := by decide +kernel
theorem em63_55 : decode prog_11_method_5_code 55 = .ok (.aload_n 0, 1) := by decide +kernel
theorem em63_56 : decode prog_11_method_5_code 56 = .ok (.aload_n 1, 1) := by decide +kernel
theorem em63_57 : decode prog_11_method_5_code 57 = .ok (.iload_n 2, 1) := by decide +kernel
theorem em63_58 : decode prog_11_method_5_code 58 = .ok (.iload 4, 2) := by decide +kernel
theorem em63_60 : decode prog_11_method_5_code 60 = .ok (.iload 5, 2) := by decide +kernel
theorem em63_62 : decode prog_11_method_5_code 62 = .ok (.invokevirtual 51, 3) := by decide +kernel
theorem em63_65 : decode prog_11_method_5_code 65 = .ok (.ifCond .eq 63, 3) := by decide +kernel
theorem em63_68 : decode prog_11_method_5_code 68 = .ok (.aload_n 0, 1) := by decide +kernel
theorem em63_69 : decode prog_11_method_5_code 69 = .ok (.aload_n 1, 1) := by decide +kernel
theorem em63_70 : decode prog_11_method_5_code 70 = .ok (.iload_n 3, 1) := by decide +kernel
theorem em63_71 : decode prog_11_method_5_code 71 = .ok (.iload 5, 2) := by decide +kernel
theorem em63_73 : decode prog_11_method_5_code 73 = .ok (.iload 4, 2) := by decide +kernel
theorem em63_75 : decode prog_11_method_5_code 75 = .ok (.invokevirtual 51, 3) := by decide +kernel
theorem em63_78 : decode prog_11_method_5_code 78 = .ok (.ifCond .eq 50, 3) := by decide +kernel
theorem em63_81 : decode prog_11_method_5_code 81 = .ok (.aload_n 0, 1) := by decide +kernel
theorem em63_82 : decode prog_11_method_5_code 82 = .ok (.aload_n 0, 1) := by decide +kernel
theorem em63_83 : decode prog_11_method_5_code 83 = .ok (.getfield 41, 3) := by decide +kernel
theorem em63_86 : decode prog_11_method_5_code 86 = .ok (.ifCond .ne 25, 3) := by decide +kernel
theorem em63_89 : decode prog_11_method_5_code 89 = .ok (.sipush 1000, 3) := by decide +kernel
theorem em63_92 : decode prog_11_method_5_code 92 = .ok (.iload_n 2, 1) := by decide +kernel
theorem em63_93 : decode prog_11_method_5_code 93 = .ok (.imul, 1) := by decide +kernel
theorem em63_94 : decode prog_11_method_5_code 94 = .ok (.bipush 100, 2) := by decide +kernel
theorem em63_96 : decode prog_11_method_5_code 96 = .ok (.iload_n 3, 1) := by decide +kernel
theorem em63_97 : decode prog_11_method_5_code 97 = .ok (.imul, 1) := by decide +kernel
theorem em63_98 : decode prog_11_method_5_code 98 = .ok (.iadd, 1) := by decide +kernel
theorem em63_99 : decode prog_11_method_5_code 99 = .ok (.bipush 10, 2) := by decide +kernel
theorem em63_101 : decode prog_11_method_5_code 101 = .ok (.iload 4, 2) := by decide +kernel
theorem em63_103 : decode prog_11_method_5_code 103 = .ok (.imul, 1) := by decide +kernel
theorem em63_104 : decode prog_11_method_5_code 104 = .ok (.iadd, 1) := by decide +kernel
theorem em63_105 : decode prog_11_method_5_code 105 = .ok (.iload 5, 2) := by decide +kernel
theorem em63_107 : decode prog_11_method_5_code 107 = .ok (.iadd, 1) := by decide +kernel
theorem em63_108 : decode prog_11_method_5_code 108 = .ok (.goto 7, 3) := by decide +kernel
theorem em63_111 : decode prog_11_method_5_code 111 = .ok (.aload_n 0, 1) := by decide +kernel
theorem em63_112 : decode prog_11_method_5_code 112 = .ok (.getfield 44, 3) := by decide +kernel
theorem em63_115 : decode prog_11_method_5_code 115 = .ok (.putfield 44, 3) := by decide +kernel
theorem em63_118 : decode prog_11_method_5_code 118 = .ok (.aload_n 0, 1) := by decide +kernel
theorem em63_119 : decode prog_11_method_5_code 119 = .ok (.dup, 1) := by decide +kernel
theorem em63_120 : decode prog_11_method_5_code 120 = .ok (.getfield 41, 3) := by decide +kernel
theorem em63_123 : decode prog_11_method_5_code 123 = .ok (.iconst 1, 1) := by decide +kernel
theorem em63_124 : decode prog_11_method_5_code 124 = .ok (.iadd, 1) := by decide +kernel
theorem em63_125 : decode prog_11_method_5_code 125 = .ok (.putfield 41, 3) := by decide +kernel
theorem em63_128 : decode prog_11_method_5_code 128 = .ok (.iinc 5 1, 3) := by decide +kernel
theorem em63_131 : decode prog_11_method_5_code 131 = .ok (.goto (-118), 3) := by decide +kernel
theorem em63_134 : decode prog_11_method_5_code 134 = .ok (.iinc 4 1, 3) := by decide +kernel
theorem em63_137 : decode prog_11_method_5_code 137 = .ok (.goto (-134), 3) := by decide +kernel
theorem em63_140 : decode prog_11_method_5_code 140 = .ok (.return_, 1) := by decide +kernel
/-! CapitalCase$Trade.seekBetween:(LCapitalCase$Town;II)V -/
noncomputable def zTr_67 : Nat → Option aF := bn 69 (bn 34 (bn 17 (bn 7 (bn 3 (bn 1 (bl 0 (a_const 0 1)) (bl 1 (a_istore 4 3))) (bn 5 (bl 3 (a_iload 4 5)) (bl 5 (a_const 8 7)))) (bn 11 (bn 10 (bl 7 (a_icmp 3 140 10)) (bl 10 (a_const 0 11))) (bn 13 (bl 11 (a_istore 5 13)) (bn 15 (bl 13 (a_iload 5 15)) (bl 15 (a_const 8 17)))))) (bn 27 (bn 22 (bn 20 (bl 17 (a_icmp 3 134 20)) (bl 20 (a_iload 4 22))) (bn 24 (bl 22 (a_iload 5 24)) (bl 24 (a_icmp 0 128 27)))) (bn 29 (bn 28 (bl 27 (a_aload 1 28)) (bl 28 (a_iload 2 29))) (bn 31 (bl 29 (a_const 8 31)) (bn 32 (bl 31 (a_bin fmul 32)) (bl 32 (a_iload 4 34))))))) (bn 49 (bn 42 (bn 38 (bn 35 (bl 34 (a_bin fadd 35)) (bl 35 (a_invV zG0 zprot (false, false) zc_55 (zbd 55) (3, 0, 0) 8 2 38))) (bn 41 (bl 38 (a_if 5 128 41)) (bl 41 (a_aload 1 42)))) (bn 45 (bn 43 (bl 42 (a_iload 3 43)) (bl 43 (a_const 8 45))) (bn 46 (bl 45 (a_bin fmul 46)) (bn 48 (bl 46 (a_iload 5 48)) (bl 48 (a_bin fadd 49)))))) (bn 58 (bn 55 (bn 52 (bl 49 (a_invV zG0 zprot (false, false) zc_55 (zbd 55) (3, 0, 0) 8 2 52)) (bl 52 (a_if 5 128 55))) (bn 56 (bl 55 (a_aload 0 56)) (bn 57 (bl 56 (a_aload 1 57)) (bl 57 (a_iload 2 58))))) (bn 62 (bn 60 (bl 58 (a_iload 4 60)) (bl 60 (a_iload 5 62))) (bn 65 (bl 62 (a_invV zG0 zprot (false, false) zc_64 (zbd 64) (3, 0, 0) 9 5 65)) (bn 68 (bl 65 (a_if 0 128 68)) (bl 68 (a_aload 0 69)))))))) (bn 101 (bn 86 (bn 75 (bn 71 (bn 70 (bl 69 (a_aload 1 70)) (bl 70 (a_iload 3 71))) (bn 73 (bl 71 (a_iload 5 73)) (bl 73 (a_iload 4 75)))) (bn 81 (bn 78 (bl 75 (a_invV zG0 zprot (false, false) zc_64 (zbd 64) (3, 0, 0) 9 5 78)) (bl 78 (a_if 0 128 81))) (bn 82 (bl 81 (a_aload 0 82)) (bn 83 (bl 82 (a_aload 0 83)) (bl 83 (a_getf zG0 zT0 9 1 86)))))) (bn 94 (bn 92 (bn 89 (bl 86 (a_if 1 111 89)) (bl 89 (a_const 1000 92))) (bn 93 (bl 92 (a_iload 2 93)) (bl 93 (a_bin fmul 94)))) (bn 97 (bn 96 (bl 94 (a_const 100 96)) (bl 96 (a_iload 3 97))) (bn 98 (bl 97 (a_bin fmul 98)) (bn 99 (bl 98 (a_bin fadd 99)) (bl 99 (a_const 10 101))))))) (bn 118 (bn 107 (bn 104 (bn 103 (bl 101 (a_iload 4 103)) (bl 103 (a_bin fmul 104))) (bn 105 (bl 104 (a_bin fadd 105)) (bl 105 (a_iload 5 107)))) (bn 111 (bn 108 (bl 107 (a_bin fadd 108)) (bl 108 (a_goto 115))) (bn 112 (bl 111 (a_aload 0 112)) (bn 115 (bl 112 (a_getf zG0 zT0 9 2 115)) (bl 115 (a_puti zG0 zT0 zprot 9 2 0 118)))))) (bn 125 (bn 120 (bn 119 (bl 118 (a_aload 0 119)) (bl 119 (a_dup 120))) (bn 123 (bl 120 (a_getf zG0 zT0 9 1 123)) (bn 124 (bl 123 (a_const 1 124)) (bl 124 (a_bin fadd 125))))) (bn 131 (bn 128 (bl 125 (a_puti zG0 zT0 zprot 9 1 0 128)) (bl 128 (a_iinc 5 1 131))) (bn 134 (bl 131 (a_goto 13)) (bn 137 (bl 134 (a_iinc 4 1 137)) (bl 137 (a_goto 3))))))))
set_option maxRecDepth 100000 in
set_option maxHeartbeats 4000000 in
theorem zTo_67 {pre : zPre} {post : zPost} (H : zTieC pre post) {d : Nat × Nat × Nat} (hd : zLe (3, 0, 0) d) : aTr zG0 zT0 zInv (false, false) PZ zbd pre post d prog_11_method_5_code "CapitalCase$Trade" zTr_67 := (xB_n (xB_n (xB_n (xB_n (xB_n (xB_n (xB_l ⟨_, zs_iconst (v := 0) em63_0 (by decide +kernel), as_const (by decide +kernel)⟩) (xB_l ⟨_, zs_istore em63_1, as_istore⟩)) (xB_n (xB_l ⟨_, zs_iload em63_3, as_iload⟩) (xB_l ⟨_, zs_bipush (v := 8) em63_5 (by decide +kernel), as_const (by decide +kernel)⟩))) (xB_n (xB_n (xB_l ⟨_, zs_icmpge em63_7 (t := 140) (by decide), as_icmp⟩) (xB_l ⟨_, zs_iconst (v := 0) em63_10 (by decide +kernel), as_const (by decide +kernel)⟩)) (xB_n (xB_l ⟨_, zs_istore em63_11, as_istore⟩) (xB_n (xB_l ⟨_, zs_iload em63_13, as_iload⟩) (xB_l ⟨_, zs_bipush (v := 8) em63_15 (by decide +kernel), as_const (by decide +kernel)⟩))))) (xB_n (xB_n (xB_n (xB_l ⟨_, zs_icmpge em63_17 (t := 134) (by decide), as_icmp⟩) (xB_l ⟨_, zs_iload em63_20, as_iload⟩)) (xB_n (xB_l ⟨_, zs_iload em63_22, as_iload⟩) (xB_l ⟨_, zs_icmpeq em63_24 (t := 128) (by decide), as_icmp⟩))) (xB_n (xB_n (xB_l ⟨_, zs_aload_n em63_27, as_aload⟩) (xB_l ⟨_, zs_iload_n em63_28, as_iload⟩)) (xB_n (xB_l ⟨_, zs_bipush (v := 8) em63_29 (by decide +kernel), as_const (by decide +kernel)⟩) (xB_n (xB_l ⟨_, zs_imul em63_31, as_bin fmul_ok⟩) (xB_l ⟨_, zs_iload em63_32, as_iload⟩)))))) (xB_n (xB_n (xB_n (xB_n (xB_l ⟨_, zs_iadd em63_34, as_bin fadd_ok⟩) (xB_l ⟨_, zs_invV (T := TX8) em63_35 zl_55 rfl wd_1138 wd_859 wd_860 ((congrFun xo_10 37).trans rfl) xm_51, ag_invV H zh_55 hd (by decide)⟩)) (xB_n (xB_l ⟨_, zs_ifle em63_38 (t := 128) (by decide), as_if⟩) (xB_l ⟨_, zs_aload_n em63_41, as_aload⟩))) (xB_n (xB_n (xB_l ⟨_, zs_iload_n em63_42, as_iload⟩) (xB_l ⟨_, zs_bipush (v := 8) em63_43 (by decide +kernel), as_const (by decide +kernel)⟩)) (xB_n (xB_l ⟨_, zs_imul em63_45, as_bin fmul_ok⟩) (xB_n (xB_l ⟨_, zs_iload em63_46, as_iload⟩) (xB_l ⟨_, zs_iadd em63_48, as_bin fadd_ok⟩))))) (xB_n (xB_n (xB_n (xB_l ⟨_, zs_invV (T := TX8) em63_49 zl_55 rfl wd_1138 wd_859 wd_860 ((congrFun xo_10 37).trans rfl) xm_51, ag_invV H zh_55 hd (by decide)⟩) (xB_l ⟨_, zs_ifle em63_52 (t := 128) (by decide), as_if⟩)) (xB_n (xB_l ⟨_, zs_aload_n em63_55, as_aload⟩) (xB_n (xB_l ⟨_, zs_aload_n em63_56, as_aload⟩) (xB_l ⟨_, zs_iload_n em63_57, as_iload⟩)))) (xB_n (xB_n (xB_l ⟨_, zs_iload em63_58, as_iload⟩) (xB_l ⟨_, zs_iload em63_60, as_iload⟩)) (xB_n (xB_l ⟨_, zs_invV (T := TX9) em63_62 zl_64 rfl wd_1151 wd_1153 wd_40 ((congrFun xo_10 51).trans rfl) xm_60, ag_invV H zh_64 hd (by decide)⟩) (xB_n (xB_l ⟨_, zs_ifeq em63_65 (t := 128) (by decide), as_if⟩) (xB_l ⟨_, zs_aload_n em63_68, as_aload⟩))))))) (xB_n (xB_n (xB_n (xB_n (xB_n (xB_l ⟨_, zs_aload_n em63_69, as_aload⟩) (xB_l ⟨_, zs_iload_n em63_70, as_iload⟩)) (xB_n (xB_l ⟨_, zs_iload em63_71, as_iload⟩) (xB_l ⟨_, zs_iload em63_73, as_iload⟩))) (xB_n (xB_n (xB_l ⟨_, zs_invV (T := TX9) em63_75 zl_64 rfl wd_1151 wd_1153 wd_40 ((congrFun xo_10 51).trans rfl) xm_60, ag_invV H zh_64 hd (by decide)⟩) (xB_l ⟨_, zs_ifeq em63_78 (t := 128) (by decide), as_if⟩)) (xB_n (xB_l ⟨_, zs_aload_n em63_81, as_aload⟩) (xB_n (xB_l ⟨_, zs_aload_n em63_82, as_aload⟩) (xB_l ⟨_, zs_getf (T := TX9) (M := 3) (ci := 9) (j := 1) em63_83 rfl inX9 (by decide) wd_542 ((congrFun xo_10 41).trans rfl), as_getf zTie⟩))))) (xB_n (xB_n (xB_n (xB_l ⟨_, zs_ifne em63_86 (t := 111) (by decide), as_if⟩) (xB_l ⟨_, zs_sipush (v := 1000) em63_89 (by decide +kernel), as_const (by decide +kernel)⟩)) (xB_n (xB_l ⟨_, zs_iload_n em63_92, as_iload⟩) (xB_l ⟨_, zs_imul em63_93, as_bin fmul_ok⟩))) (xB_n (xB_n (xB_l ⟨_, zs_bipush (v := 100) em63_94 (by decide +kernel), as_const (by decide +kernel)⟩) (xB_l ⟨_, zs_iload_n em63_96, as_iload⟩)) (xB_n (xB_l ⟨_, zs_imul em63_97, as_bin fmul_ok⟩) (xB_n (xB_l ⟨_, zs_iadd em63_98, as_bin fadd_ok⟩) (xB_l ⟨_, zs_bipush (v := 10) em63_99 (by decide +kernel), as_const (by decide +kernel)⟩)))))) (xB_n (xB_n (xB_n (xB_n (xB_l ⟨_, zs_iload em63_101, as_iload⟩) (xB_l ⟨_, zs_imul em63_103, as_bin fmul_ok⟩)) (xB_n (xB_l ⟨_, zs_iadd em63_104, as_bin fadd_ok⟩) (xB_l ⟨_, zs_iload em63_105, as_iload⟩))) (xB_n (xB_n (xB_l ⟨_, zs_iadd em63_107, as_bin fadd_ok⟩) (xB_l ⟨_, zs_goto em63_108 (t := 115) (by decide), as_goto⟩)) (xB_n (xB_l ⟨_, zs_aload_n em63_111, as_aload⟩) (xB_n (xB_l ⟨_, zs_getf (T := TX9) (M := 3) (ci := 9) (j := 2) em63_112 rfl inX9 (by decide) wd_544 ((congrFun xo_10 44).trans rfl), as_getf zTie⟩) (xB_l ⟨_, zs_puti zInj0 (T := TX9) (M := 3) (ty := tyX9) (ci := 9) (j := 2) (kd := 0) em63_115 rfl inX9 tyX9_ok nmX9 (by decide) wd_544 (Or.inl ⟨rfl, rfl⟩) rfl ((congrFun xo_10 44).trans rfl), ag_puti0⟩))))) (xB_n (xB_n (xB_n (xB_l ⟨_, zs_aload_n em63_118, as_aload⟩) (xB_l ⟨_, zs_dup em63_119, as_dup⟩)) (xB_n (xB_l ⟨_, zs_getf (T := TX9) (M := 3) (ci := 9) (j := 1) em63_120 rfl inX9 (by decide) wd_542 ((congrFun xo_10 41).trans rfl), as_getf zTie⟩) (xB_n (xB_l ⟨_, zs_iconst (v := 1) em63_123 (by decide +kernel), as_const (by decide +kernel)⟩) (xB_l ⟨_, zs_iadd em63_124, as_bin fadd_ok⟩)))) (xB_n (xB_n (xB_l ⟨_, zs_puti zInj0 (T := TX9) (M := 3) (ty := tyX9) (ci := 9) (j := 1) (kd := 0) em63_125 rfl inX9 tyX9_ok nmX9 (by decide) wd_542 (Or.inl ⟨rfl, rfl⟩) rfl ((congrFun xo_10 41).trans rfl), ag_puti0⟩) (xB_l ⟨_, zs_iinc (k := 1) em63_128 (by decide +kernel), as_iinc (by decide +kernel)⟩)) (xB_n (xB_l ⟨_, zs_goto em63_131 (t := 13) (by decide), as_goto⟩) (xB_n (xB_l ⟨_, zs_iinc (k := 1) em63_134 (by decide +kernel), as_iinc (by decide +kernel)⟩) (xB_l ⟨_, zs_goto em63_137 (t := 3) (by decide), as_goto⟩))))))))
set_option maxRecDepth 100000 in
set_option maxHeartbeats 4000000 in
theorem zM_67 : zOKa 67 zc_67 := z_auto (cuts := [(3, ([(0, 0), (0, 4), (1, 4), (0, 7), (0, 8)], [], [some (.inr (.inl (0, 74))), some (.inr (.inl (1, 1000))), some (.inl (1, 0)), some (.inl (2, 0)), some (.inl (4, 0)), none], [], [(6, 3, 0)], (0, 0)), [(0, 4)], 89, [0, 0, 0, 0, (-10)]), (13, ([(0, 0), (0, 4), (1, 4), (0, 7), (0, 7), (0, 8)], [], [some (.inr (.inl (0, 74))), some (.inr (.inl (1, 1000))), some (.inl (1, 0)), some (.inl (2, 0)), some (.inl (4, 0)), some (.inl (5, 0))], [], [(6, 3, 0)], (0, 0)), [(0, 4), (0, 5)], 88, [0, 0, 0, 0, (-10), (-1)])]) (rets := [(140, 3)]) (fuel := 1000) rfl rfl (by decide) (xrt_ok (xR_c (Or.inr (Or.inr (Or.inl ⟨rfl, em63_140, rfl⟩))) (xR_n))) (fun _ _ H _ hd => zTo_67 H hd) (by decide +kernel)
theorem em64_0 : decode prog_11_method_7_code 0 = .ok (.aload_n 1, 1) := by decide +kernel
theorem em64_1 : decode prog_11_method_7_code 1 = .ok (.aload_n 0, 1) := by decide +kernel
theorem em64_2 : decode prog_11_method_7_code 2 = .ok (.getfield 9, 3) := by decide +kernel
theorem em64_5 : decode prog_11_method_7_code 5 = .ok (.getfield 59, 3) := by decide +kernel
theorem em64_8 : decode prog_11_method_7_code 8 = .ok (.invokevirtual 62, 3) := by decide +kernel
theorem em64_11 : decode prog_11_method_7_code 11 = .ok (.istore 5, 2) := by decide +kernel
theorem em64_13 : decode prog_11_method_7_code 13 = .ok (.iconst 0, 1) := by decide +kernel
theorem em64_14 : decode prog_11_method_7_code 14 = .ok (.istore 6, 2) := by decide +kernel
theorem em64_16 : decode prog_11_method_7_code 16 = .ok (.iconst 0, 1) := by decide +kernel
theorem em64_17 : decode prog_11_method_7_code 17 = .ok (.istore 7, 2) := by decide +kernel
theorem em64_19 : decode prog_11_method_7_code 19 = .ok (.iload 7, 2) := by decide +kernel
theorem em64_21 : decode prog_11_method_7_code 21 = .ok (.aload_n 0, 1) := by decide +kernel
theorem em64_22 : decode prog_11_method_7_code 22 = .ok (.getfield 9, 3) := by decide +kernel
theorem em64_25 : decode prog_11_method_7_code 25 = .ok (.getfield 59, 3) := by decide +kernel
theorem em64_28 : decode prog_11_method_7_code 28 = .ok (.if_icmp .ge 146, 3) := by decide +kernel
theorem em64_31 : decode prog_11_method_7_code 31 = .ok (.iload 5, 2) := by decide +kernel
theorem em64_33 : decode prog_11_method_7_code 33 = .ok (.iload 7, 2) := by decide +kernel
theorem em64_35 : decode prog_11_method_7_code 35 = .ok (.ishr, 1) := by decide +kernel
theorem em64_36 : decode prog_11_method_7_code 36 = .ok (.iconst 1, 1) := by decide +kernel
theorem em64_37 : decode prog_11_method_7_code 37 = .ok (.iand, 1) := by decide +kernel
theorem em64_38 : decode prog_11_method_7_code 38 = .ok (.iconst 1, 1) := by decide +kernel
theorem em64_39 : decode prog_11_method_7_code 39 = .ok (.if_icmp .ne 7, 3) := by decide +kernel
theorem em64_42 : decode prog_11_method_7_code 42 = .ok (.iconst 1, 1) := by decide +kernel
theorem em64_43 : decode prog_11_method_7_code 43 = .ok (.goto 4, 3) := by decide +kernel
theorem em64_46 : decode prog_11_method_7_code 46 = .ok (.iconst 0, 1) := by decide +kernel
theorem em64_47 : decode prog_11_method_7_code 47 = .ok (.istore 8, 2) := by decide +kernel
theorem em64_49 : decode prog_11_method_7_code 49 = .ok (.iconst 0, 1) := by decide +kernel
theorem em64_50 : decode prog_11_method_7_code 50 = .ok (.istore 9, 2) := by decide +kernel
theorem em64_52 : decode prog_11_method_7_code 52 = .ok (.iload 9, 2) := by decide +kernel
theorem em64_54 : decode prog_11_method_7_code 54 = .ok (.bipush 8, 2) := by decide +kernel
theorem em64_56 : decode prog_11_method_7_code 56 = .ok (.if_icmp .ge 97, 3) := by decide +kernel
theorem em64_59 : decode prog_11_method_7_code 59 = .ok (.iload 8, 2) := by decide +kernel
theorem em64_61 : decode prog_11_method_7_code 61 = .ok (.ifCond .eq 92, 3) := by decide +kernel
theorem em64_64 : decode prog_11_method_7_code 64 = .ok (.iload_n 2, 1) := by decide +kernel
theorem em64_65 : decode prog_11_method_7_code 65 = .ok (.bipush 8, 2) := by decide +kernel
theorem em64_67 : decode prog_11_method_7_code 67 = .ok (.imul, 1) := by decide +kernel
theorem em64_68 : decode prog_11_method_7_code 68 = .ok (.iload 9, 2) := by decide +kernel
theorem em64_70 : decode prog_11_method_7_code 70 = .ok (.iadd, 1) := by decide +kernel
theorem em64_71 : decode prog_11_method_7_code 71 = .ok (.istore 10, 2) := by decide +kernel
theorem em64_73 : decode prog_11_method_7_code 73 = .ok (.aload_n 1, 1) := by decide +kernel
theorem em64_74 : decode prog_11_method_7_code 74 = .ok (.getfield 21, 3) := by decide +kernel
theorem em64_77 : decode prog_11_method_7_code 77 = .ok (.iload 10, 2) := by decide +kernel
theorem em64_79 : decode prog_11_method_7_code 79 = .ok (.iaload, 1) := by decide +kernel
theorem em64_80 : decode prog_11_method_7_code 80 = .ok (.aload_n 1, 1) := by decide +kernel
theorem em64_81 : decode prog_11_method_7_code 81 = .ok (.getfield 26, 3) := by decide +kernel
theorem em64_84 : decode prog_11_method_7_code 84 = .ok (.iload 10, 2) := by decide +kernel
theorem em64_86 : decode prog_11_method_7_code 86 = .ok (.iaload, 1) := by decide +kernel
theorem em64_87 : decode prog_11_method_7_code 87 = .ok (.isub, 1) := by decide +kernel
theorem em64_88 : decode prog_11_method_7_code 88 = .ok (.iload 9, 2) := by decide +kernel
theorem em64_90 : decode prog_11_method_7_code 90 = .ok (.iload 4, 2) := by decide +kernel
theorem em64_92 : decode prog_11_method_7_code 92 = .ok (.if_icmp .ne 7, 3) := by decide +kernel
theorem em64_95 : decode prog_11_method_7_code 95 = .ok (.iconst 1, 1) := by decide +kernel
theorem em64_96 : decode prog_11_method_7_code 96 = .ok (.goto 4, 3) := by decide +kernel
theorem em64_99 : decode prog_11_method_7_code 99 = .ok (.iconst 0, 1) := by decide +kernel
theorem em64_100 : decode prog_11_method_7_code 100 = .ok (.iadd, 1) := by decide +kernel
theorem em64_101 : decode prog_11_method_7_code 101 = .ok (.iload 9, 2) := by decide +kernel
theorem em64_103 : decode prog_11_method_7_code 103 = .ok (.iload_n 3, 1) := by decide +kernel
theorem em64_104 : decode prog_11_method_7_code 104 = .ok (.if_icmp .ne 7, 3) := by decide +kernel
theorem em64_107 : decode prog_11_method_7_code 107 = .ok (.iconst 1, 1) := by decide +kernel
theorem em64_108 : decode prog_11_method_7_code 108 = .ok (.goto 4, 3) := by decide +kernel
theorem em64_111 : decode prog_11_method_7_code 111 = .ok (.iconst 0, 1) := by decide +kernel
theorem em64_112 : decode prog_11_method_7_code 112 = .ok (.isub, 1) := by decide +kernel
theorem em64_113 : decode prog_11_method_7_code 113 = .ok (.istore 11, 2) := by decide +kernel
theorem em64_115 : decode prog_11_method_7_code 115 = .ok (.aload_n 0, 1) := by decide +kernel
theorem em64_116 : decode prog_11_method_7_code 116 = .ok (.getfield 9, 3) := by decide +kernel
theorem em64_119 : decode prog_11_method_7_code 119 = .ok (.getfield 15, 3) := by decide +kernel
theorem em64_122 : decode prog_11_method_7_code 122 = .ok (.iload 7, 2) := by decide +kernel
theorem em64_124 : decode prog_11_method_7_code 124 = .ok (.bipush 8, 2) := by decide +kernel
theorem em64_126 : decode prog_11_method_7_code 126 = .ok (.imul, 1) := by decide +kernel
theorem em64_127 : decode prog_11_method_7_code 127 = .ok (.iload 9, 2) := by decide +kernel
theorem em64_129 : decode prog_11_method_7_code 129 = .ok (.iadd, 1) := by decide +kernel
theorem em64_130 : decode prog_11_method_7_code 130 = .ok (.iaload, 1) := by decide +kernel
theorem em64_131 : decode prog_11_method_7_code 131 = .ok (.iconst 0, 1) := by decide +kernel
theorem em64_132 : decode prog_11_method_7_code 132 = .ok (.iload 11, 2) := by decide +kernel
theorem em64_134 : decode prog_11_method_7_code 134 = .ok (.invokestatic 65, 3) := by decide +kernel
theorem em64_137 : decode prog_11_method_7_code 137 = .ok (.if_icmp .gt 7, 3) := by decide +kernel
theorem em64_140 : decode prog_11_method_7_code 140 = .ok (.iconst 1, 1) := by decide +kernel
theorem em64_141 : decode prog_11_method_7_code 141 = .ok (.goto 4, 3) := by decide +kernel
theorem em64_144 : decode prog_11_method_7_code 144 = .ok (.iconst 0, 1) := by decide +kernel
theorem em64_145 : decode prog_11_method_7_code 145 = .ok (.istore 8, 2) := by decide +kernel
theorem em64_147 : decode prog_11_method_7_code 147 = .ok (.iinc 9 1, 3) := by decide +kernel
theorem em64_150 : decode prog_11_method_7_code 150 = .ok (.goto (-98), 3) := by decide +kernel
theorem em64_153 : decode prog_11_method_7_code 153 = .ok (.iload 6, 2) := by decide +kernel
theorem em64_155 : decode prog_11_method_7_code 155 = .ok (.iload 8, 2) := by decide +kernel
theorem em64_157 : decode prog_11_method_7_code 157 = .ok (.ifCond .eq 7, 3) := by decide +kernel
theorem em64_160 : decode prog_11_method_7_code 160 = .ok (.iconst 1, 1) := by decide +kernel
theorem em64_161 : decode prog_11_method_7_code 161 = .ok (.goto 4, 3) := by decide +kernel
theorem em64_164 : decode prog_11_method_7_code 164 = .ok (.iconst 0, 1) := by decide +kernel
theorem em64_165 : decode prog_11_method_7_code 165 = .ok (.iadd, 1) := by decide +kernel
theorem em64_166 : decode prog_11_method_7_code 166 = .ok (.istore 6, 2) := by decide +kernel
theorem em64_168 : decode prog_11_method_7_code 168 = .ok (.iinc 7 1, 3) := by decide +kernel
theorem em64_171 : decode prog_11_method_7_code 171 = .ok (.goto (-152), 3) := by decide +kernel
theorem em64_174 : decode prog_11_method_7_code 174 = .ok (.iload 6, 2) := by decide +kernel
theorem em64_176 : decode prog_11_method_7_code 176 = .ok (.ireturn, 1) := by decide +kernel
/-! CapitalCase$Trade.versesAlone:(LCapitalCase$Town;III)I -/
noncomputable def zTr_68 : Nat → Option aF := bn 86 (bn 43 (bn 21 (bn 11 (bn 2 (bn 1 (bl 0 (a_aload 1 1)) (bl 1 (a_aload 0 2))) (bn 5 (bl 2 (a_getf zG0 zT0 9 0 5)) (bn 8 (bl 5 (a_getf zG0 zT0 6 1 8)) (bl 8 (a_invV zG0 zprot (false, false) zc_62 (zbd 62) (1, 0, 0) 8 2 11))))) (bn 16 (bn 13 (bl 11 (a_istore 5 13)) (bn 14 (bl 13 (a_const 0 14)) (bl 14 (a_istore 6 16)))) (bn 17 (bl 16 (a_const 0 17)) (bn 19 (bl 17 (a_istore 7 19)) (bl 19 (a_iload 7 21)))))) (bn 35 (bn 28 (bn 22 (bl 21 (a_aload 0 22)) (bn 25 (bl 22 (a_getf zG0 zT0 9 0 25)) (bl 25 (a_getf zG0 zT0 6 1 28)))) (bn 31 (bl 28 (a_icmp 3 174 31)) (bn 33 (bl 31 (a_iload 5 33)) (bl 33 (a_iload 7 35))))) (bn 38 (bn 36 (bl 35 (a_bin fany 36)) (bn 37 (bl 36 (a_const 1 37)) (bl 37 (a_bin fand 38)))) (bn 39 (bl 38 (a_const 1 39)) (bn 42 (bl 39 (a_icmp 1 46 42)) (bl 42 (a_const 1 43))))))) (bn 65 (bn 52 (bn 47 (bn 46 (bl 43 (a_goto 47)) (bl 46 (a_const 0 47))) (bn 49 (bl 47 (a_istore 8 49)) (bn 50 (bl 49 (a_const 0 50)) (bl 50 (a_istore 9 52))))) (bn 59 (bn 54 (bl 52 (a_iload 9 54)) (bn 56 (bl 54 (a_const 8 56)) (bl 56 (a_icmp 3 153 59)))) (bn 61 (bl 59 (a_iload 8 61)) (bn 64 (bl 61 (a_if 0 153 64)) (bl 64 (a_iload 2 65)))))) (bn 74 (bn 70 (bn 67 (bl 65 (a_const 8 67)) (bn 68 (bl 67 (a_bin fmul 68)) (bl 68 (a_iload 9 70)))) (bn 71 (bl 70 (a_bin fadd 71)) (bn 73 (bl 71 (a_istore 10 73)) (bl 73 (a_aload 1 74))))) (bn 80 (bn 77 (bl 74 (a_getf zG0 zT0 8 0 77)) (bn 79 (bl 77 (a_iload 10 79)) (bl 79 (a_ald zG0 zT0 (false, false) ts0 80)))) (bn 81 (bl 80 (a_aload 1 81)) (bn 84 (bl 81 (a_getf zG0 zT0 8 1 84)) (bl 84 (a_iload 10 86)))))))) (bn 127 (bn 104 (bn 95 (bn 88 (bn 87 (bl 86 (a_ald zG0 zT0 (false, false) ts0 87)) (bl 87 (a_bin fsub 88))) (bn 90 (bl 88 (a_iload 9 90)) (bn 92 (bl 90 (a_iload 4 92)) (bl 92 (a_icmp 1 99 95))))) (bn 100 (bn 96 (bl 95 (a_const 1 96)) (bn 99 (bl 96 (a_goto 100)) (bl 99 (a_const 0 100)))) (bn 101 (bl 100 (a_bin fadd 101)) (bn 103 (bl 101 (a_iload 9 103)) (bl 103 (a_iload 3 104)))))) (bn 115 (bn 111 (bn 107 (bl 104 (a_icmp 1 111 107)) (bn 108 (bl 107 (a_const 1 108)) (bl 108 (a_goto 112)))) (bn 112 (bl 111 (a_const 0 112)) (bn 113 (bl 112 (a_bin fsub 113)) (bl 113 (a_istore 11 115))))) (bn 122 (bn 116 (bl 115 (a_aload 0 116)) (bn 119 (bl 116 (a_getf zG0 zT0 9 0 119)) (bl 119 (a_getf zG0 zT0 6 10 122)))) (bn 124 (bl 122 (a_iload 7 124)) (bn 126 (bl 124 (a_const 8 126)) (bl 126 (a_bin fmul 127))))))) (bn 150 (bn 137 (bn 131 (bn 129 (bl 127 (a_iload 9 129)) (bn 130 (bl 129 (a_bin fadd 130)) (bl 130 (a_ald zG0 zT0 (false, false) ts0 131)))) (bn 132 (bl 131 (a_const 0 132)) (bn 134 (bl 132 (a_iload 11 134)) (bl 134 (a_math fmax 137))))) (bn 144 (bn 140 (bl 137 (a_icmp 4 144 140)) (bn 141 (bl 140 (a_const 1 141)) (bl 141 (a_goto 145)))) (bn 145 (bl 144 (a_const 0 145)) (bn 147 (bl 145 (a_istore 8 147)) (bl 147 (a_iinc 9 1 150)))))) (bn 164 (bn 157 (bn 153 (bl 150 (a_goto 52)) (bn 155 (bl 153 (a_iload 6 155)) (bl 155 (a_iload 8 157)))) (bn 160 (bl 157 (a_if 0 164 160)) (bn 161 (bl 160 (a_const 1 161)) (bl 161 (a_goto 165))))) (bn 168 (bn 165 (bl 164 (a_const 0 165)) (bn 166 (bl 165 (a_bin fadd 166)) (bl 166 (a_istore 6 168)))) (bn 171 (bl 168 (a_iinc 7 1 171)) (bn 174 (bl 171 (a_goto 19)) (bl 174 (a_iload 6 176))))))))
set_option maxRecDepth 100000 in
set_option maxHeartbeats 4000000 in
theorem zTo_68 {pre : zPre} {post : zPost} (H : zTieC pre post) {d : Nat × Nat × Nat} (hd : zLe (1, 0, 0) d) : aTr zG0 zT0 zInv (false, false) PZ zbd pre post d prog_11_method_7_code "CapitalCase$Trade" zTr_68 := (xB_n (xB_n (xB_n (xB_n (xB_n (xB_n (xB_l ⟨_, zs_aload_n em64_0, as_aload⟩) (xB_l ⟨_, zs_aload_n em64_1, as_aload⟩)) (xB_n (xB_l ⟨_, zs_getf (T := TX9) (M := 3) (ci := 9) (j := 0) em64_2 rfl inX9 (by decide) wd_541 ((congrFun xo_10 9).trans rfl), as_getf zTie⟩) (xB_n (xB_l ⟨_, zs_getf (T := TX6) (M := 15) (ci := 6) (j := 1) em64_5 rfl inX6 (by decide) wd_172 ((congrFun xo_10 59).trans rfl), as_getf zTie⟩) (xB_l ⟨_, zs_invV (T := TX8) em64_8 zl_62 rfl wd_1159 wd_936 wd_937 ((congrFun xo_10 62).trans rfl) xm_58, ag_invV H zh_62 hd (by decide)⟩)))) (xB_n (xB_n (xB_l ⟨_, zs_istore em64_11, as_istore⟩) (xB_n (xB_l ⟨_, zs_iconst (v := 0) em64_13 (by decide +kernel), as_const (by decide +kernel)⟩) (xB_l ⟨_, zs_istore em64_14, as_istore⟩))) (xB_n (xB_l ⟨_, zs_iconst (v := 0) em64_16 (by decide +kernel), as_const (by decide +kernel)⟩) (xB_n (xB_l ⟨_, zs_istore em64_17, as_istore⟩) (xB_l ⟨_, zs_iload em64_19, as_iload⟩))))) (xB_n (xB_n (xB_n (xB_l ⟨_, zs_aload_n em64_21, as_aload⟩) (xB_n (xB_l ⟨_, zs_getf (T := TX9) (M := 3) (ci := 9) (j := 0) em64_22 rfl inX9 (by decide) wd_541 ((congrFun xo_10 9).trans rfl), as_getf zTie⟩) (xB_l ⟨_, zs_getf (T := TX6) (M := 15) (ci := 6) (j := 1) em64_25 rfl inX6 (by decide) wd_172 ((congrFun xo_10 59).trans rfl), as_getf zTie⟩))) (xB_n (xB_l ⟨_, zs_icmpge em64_28 (t := 174) (by decide), as_icmp⟩) (xB_n (xB_l ⟨_, zs_iload em64_31, as_iload⟩) (xB_l ⟨_, zs_iload em64_33, as_iload⟩)))) (xB_n (xB_n (xB_l ⟨_, zs_ishr em64_35, as_bin fany_ok⟩) (xB_n (xB_l ⟨_, zs_iconst (v := 1) em64_36 (by decide +kernel), as_const (by decide +kernel)⟩) (xB_l ⟨_, zs_iand em64_37, as_bin fand_ok⟩))) (xB_n (xB_l ⟨_, zs_iconst (v := 1) em64_38 (by decide +kernel), as_const (by decide +kernel)⟩) (xB_n (xB_l ⟨_, zs_icmpne em64_39 (t := 46) (by decide), as_icmp⟩) (xB_l ⟨_, zs_iconst (v := 1) em64_42 (by decide +kernel), as_const (by decide +kernel)⟩)))))) (xB_n (xB_n (xB_n (xB_n (xB_l ⟨_, zs_goto em64_43 (t := 47) (by decide), as_goto⟩) (xB_l ⟨_, zs_iconst (v := 0) em64_46 (by decide +kernel), as_const (by decide +kernel)⟩)) (xB_n (xB_l ⟨_, zs_istore em64_47, as_istore⟩) (xB_n (xB_l ⟨_, zs_iconst (v := 0) em64_49 (by decide +kernel), as_const (by decide +kernel)⟩) (xB_l ⟨_, zs_istore em64_50, as_istore⟩)))) (xB_n (xB_n (xB_l ⟨_, zs_iload em64_52, as_iload⟩) (xB_n (xB_l ⟨_, zs_bipush (v := 8) em64_54 (by decide +kernel), as_const (by decide +kernel)⟩) (xB_l ⟨_, zs_icmpge em64_56 (t := 153) (by decide), as_icmp⟩))) (xB_n (xB_l ⟨_, zs_iload em64_59, as_iload⟩) (xB_n (xB_l ⟨_, zs_ifeq em64_61 (t := 153) (by decide), as_if⟩) (xB_l ⟨_, zs_iload_n em64_64, as_iload⟩))))) (xB_n (xB_n (xB_n (xB_l ⟨_, zs_bipush (v := 8) em64_65 (by decide +kernel), as_const (by decide +kernel)⟩) (xB_n (xB_l ⟨_, zs_imul em64_67, as_bin fmul_ok⟩) (xB_l ⟨_, zs_iload em64_68, as_iload⟩))) (xB_n (xB_l ⟨_, zs_iadd em64_70, as_bin fadd_ok⟩) (xB_n (xB_l ⟨_, zs_istore em64_71, as_istore⟩) (xB_l ⟨_, zs_aload_n em64_73, as_aload⟩)))) (xB_n (xB_n (xB_l ⟨_, zs_getf (T := TX8) (M := 10) (ci := 8) (j := 0) em64_74 rfl inX8 (by decide) wd_321 ((congrFun xo_10 21).trans rfl), as_getf zTie⟩) (xB_n (xB_l ⟨_, zs_iload em64_77, as_iload⟩) (xB_l ⟨_, zs_iald em64_79, ag_iald⟩))) (xB_n (xB_l ⟨_, zs_aload_n em64_80, as_aload⟩) (xB_n (xB_l ⟨_, zs_getf (T := TX8) (M := 10) (ci := 8) (j := 1) em64_81 rfl inX8 (by decide) wd_326 ((congrFun xo_10 26).trans rfl), as_getf zTie⟩) (xB_l ⟨_, zs_iload em64_84, as_iload⟩))))))) (xB_n (xB_n (xB_n (xB_n (xB_n (xB_l ⟨_, zs_iald em64_86, ag_iald⟩) (xB_l ⟨_, zs_isub em64_87, as_bin fsub_ok⟩)) (xB_n (xB_l ⟨_, zs_iload em64_88, as_iload⟩) (xB_n (xB_l ⟨_, zs_iload em64_90, as_iload⟩) (xB_l ⟨_, zs_icmpne em64_92 (t := 99) (by decide), as_icmp⟩)))) (xB_n (xB_n (xB_l ⟨_, zs_iconst (v := 1) em64_95 (by decide +kernel), as_const (by decide +kernel)⟩) (xB_n (xB_l ⟨_, zs_goto em64_96 (t := 100) (by decide), as_goto⟩) (xB_l ⟨_, zs_iconst (v := 0) em64_99 (by decide +kernel), as_const (by decide +kernel)⟩))) (xB_n (xB_l ⟨_, zs_iadd em64_100, as_bin fadd_ok⟩) (xB_n (xB_l ⟨_, zs_iload em64_101, as_iload⟩) (xB_l ⟨_, zs_iload_n em64_103, as_iload⟩))))) (xB_n (xB_n (xB_n (xB_l ⟨_, zs_icmpne em64_104 (t := 111) (by decide), as_icmp⟩) (xB_n (xB_l ⟨_, zs_iconst (v := 1) em64_107 (by decide +kernel), as_const (by decide +kernel)⟩) (xB_l ⟨_, zs_goto em64_108 (t := 112) (by decide), as_goto⟩))) (xB_n (xB_l ⟨_, zs_iconst (v := 0) em64_111 (by decide +kernel), as_const (by decide +kernel)⟩) (xB_n (xB_l ⟨_, zs_isub em64_112, as_bin fsub_ok⟩) (xB_l ⟨_, zs_istore em64_113, as_istore⟩)))) (xB_n (xB_n (xB_l ⟨_, zs_aload_n em64_115, as_aload⟩) (xB_n (xB_l ⟨_, zs_getf (T := TX9) (M := 3) (ci := 9) (j := 0) em64_116 rfl inX9 (by decide) wd_541 ((congrFun xo_10 9).trans rfl), as_getf zTie⟩) (xB_l ⟨_, zs_getf (T := TX6) (M := 15) (ci := 6) (j := 10) em64_119 rfl inX6 (by decide) wd_208 ((congrFun xo_10 15).trans rfl), as_getf zTie⟩))) (xB_n (xB_l ⟨_, zs_iload em64_122, as_iload⟩) (xB_n (xB_l ⟨_, zs_bipush (v := 8) em64_124 (by decide +kernel), as_const (by decide +kernel)⟩) (xB_l ⟨_, zs_imul em64_126, as_bin fmul_ok⟩)))))) (xB_n (xB_n (xB_n (xB_n (xB_l ⟨_, zs_iload em64_127, as_iload⟩) (xB_n (xB_l ⟨_, zs_iadd em64_129, as_bin fadd_ok⟩) (xB_l ⟨_, zs_iald em64_130, ag_iald⟩))) (xB_n (xB_l ⟨_, zs_iconst (v := 0) em64_131 (by decide +kernel), as_const (by decide +kernel)⟩) (xB_n (xB_l ⟨_, zs_iload em64_132, as_iload⟩) (xB_l ⟨_, zs_max em64_134 wd_1160 wd_713 wd_129 wz_max ((congrFun xo_10 65).trans rfl), as_math fmax_ok⟩)))) (xB_n (xB_n (xB_l ⟨_, zs_icmpgt em64_137 (t := 144) (by decide), as_icmp⟩) (xB_n (xB_l ⟨_, zs_iconst (v := 1) em64_140 (by decide +kernel), as_const (by decide +kernel)⟩) (xB_l ⟨_, zs_goto em64_141 (t := 145) (by decide), as_goto⟩))) (xB_n (xB_l ⟨_, zs_iconst (v := 0) em64_144 (by decide +kernel), as_const (by decide +kernel)⟩) (xB_n (xB_l ⟨_, zs_istore em64_145, as_istore⟩) (xB_l ⟨_, zs_iinc (k := 1) em64_147 (by decide +kernel), as_iinc (by decide +kernel)⟩))))) (xB_n (xB_n (xB_n (xB_l ⟨_, zs_goto em64_150 (t := 52) (by decide), as_goto⟩) (xB_n (xB_l ⟨_, zs_iload em64_153, as_iload⟩) (xB_l ⟨_, zs_iload em64_155, as_iload⟩))) (xB_n (xB_l ⟨_, zs_ifeq em64_157 (t := 164) (by decide), as_if⟩) (xB_n (xB_l ⟨_, zs_iconst (v := 1) em64_160 (by decide +kernel), as_const (by decide +kernel)⟩) (xB_l ⟨_, zs_goto em64_161 (t := 165) (by decide), as_goto⟩)))) (xB_n (xB_n (xB_l ⟨_, zs_iconst (v := 0) em64_164 (by decide +kernel), as_const (by decide +kernel)⟩) (xB_n (xB_l ⟨_, zs_iadd em64_165, as_bin fadd_ok⟩) (xB_l ⟨_, zs_istore em64_166, as_istore⟩))) (xB_n (xB_l ⟨_, zs_iinc (k := 1) em64_168 (by decide +kernel), as_iinc (by decide +kernel)⟩) (xB_n (xB_l ⟨_, zs_goto em64_171 (t := 19) (by decide), as_goto⟩) (xB_l ⟨_, zs_iload em64_174, as_iload⟩))))))))
set_option maxRecDepth 100000 in
set_option maxHeartbeats 4000000 in
theorem zM_68 : zOKa 68 zc_68 := z_auto (cuts := [(19, ([(0, 0), (0, 4), ((-1), 7), ((-1), 7), (0, 7), (0, 127), ((-2147483648), 2147483647), (0, 7)], [], [some (.inr (.inl (0, 74))), some (.inr (.inl (1, 1000))), some (.inl (1, 0)), some (.inl (2, 0)), some (.inl (3, 0)), some (.inl (5, 0)), some (.inl (6, 0)), some (.inl (7, 0)), none, none, none, none], [], [(6, 4, 0)], (0, 0)), [(0, 5), (0, 6), (0, 7)], 79, [0, 0, 0, 0, 0, 0, 0, (-10)]), (52, ([(0, 0), (0, 4), ((-1), 7), ((-1), 7), (0, 7), (0, 127), ((-2147483648), 2147483647), (0, 6), (0, 1), (0, 8)], [], [some (.inr (.inl (0, 74))), some (.inr (.inl (1, 1000))), some (.inl (1, 0)), some (.inl (2, 0)), some (.inl (3, 0)), some (.inl (5, 0)), some (.inl (6, 0)), some (.inl (7, 0)), some (.inl (8, 0)), some (.inl (9, 0)), none, none], [], [(6, 4, 0)], (0, 0)), [(0, 5), (0, 6), (0, 7), (0, 8), (0, 9)], 78, [0, 0, 0, 0, 0, 0, 0, (-10), 0, (-1)])]) (rets := [(176, 1)]) (fuel := 1000) rfl rfl (by decide) (xrt_ok (xR_c (Or.inl ⟨rfl, em64_176, rfl⟩) (xR_n))) (fun _ _ H _ hd => zTo_68 H hd) (by decide +kernel)
theorem em65_0 : decode prog_12_method_5_code 0 = .ok (.iconst 0, 1) := by decide +kernel
theorem em65_1 : decode prog_12_method_5_code 1 = .ok (.istore_n 2, 1) := by decide +kernel
theorem em65_2 : decode prog_12_method_5_code 2 = .ok (.iload_n 2, 1) := by decide +kernel
theorem em65_3 : decode prog_12_method_5_code 3 = .ok (.aload_n 0, 1) := by decide +kernel
theorem em65_4 : decode prog_12_method_5_code 4 = .ok (.getfield 22, 3) := by decide +kernel
theorem em65_7 : decode prog_12_method_5_code 7 = .ok (.getfield 46, 3) := by decide +kernel
theorem em65_10 : decode prog_12_method_5_code 10 = .ok (.if_icmp .ge 35, 3) := by decide +kernel
theorem em65_13 : decode prog_12_method_5_code 13 = .ok (.iload_n 1, 1) := by decide +kernel
theorem em65_14 : decode prog_12_method_5_code 14 = .ok (.iload_n 2, 1) := by decide +kernel
theorem em65_15 : decode prog_12_method_5_code 15 = .ok (.ishr, 1) := by decide +kernel
theorem em65_16 : decode prog_12_method_5_code 16 = .ok (.iconst 1, 1) := by decide +kernel
theorem em65_17 : decode prog_12_method_5_code 17 = .ok (.iand, 1) := by decide +kernel
theorem em65_18 : decode prog_12_method_5_code 18 = .ok (.iconst 1, 1) := by decide +kernel
theorem em65_19 : decode prog_12_method_5_code 19 = .ok (.if_icmp .ne 20, 3) := by decide +kernel
theorem em65_22 : decode prog_12_method_5_code 22 = .ok (.aload_n 0, 1) := by decide +kernel
theorem em65_23 : decode prog_12_method_5_code 23 = .ok (.getfield 34, 3) := by decide +kernel
theorem em65_26 : decode prog_12_method_5_code 26 = .ok (.iload_n 2, 1) := by decide +kernel
theorem em65_27 : decode prog_12_method_5_code 27 = .ok (.aload_n 0, 1) := by decide +kernel
theorem em65_28 : decode prog_12_method_5_code 28 = .ok (.getfield 22, 3) := by decide +kernel
theorem em65_31 : decode prog_12_method_5_code 31 = .ok (.getfield 106, 3) := by decide +kernel
theorem em65_34 : decode prog_12_method_5_code 34 = .ok (.iload_n 2, 1) := by decide +kernel
theorem em65_35 : decode prog_12_method_5_code 35 = .ok (.iaload, 1) := by decide +kernel
theorem em65_36 : decode prog_12_method_5_code 36 = .ok (.invokevirtual 109, 3) := by decide +kernel
theorem em65_39 : decode prog_12_method_5_code 39 = .ok (.iinc 2 1, 3) := by decide +kernel
theorem em65_42 : decode prog_12_method_5_code 42 = .ok (.goto (-40), 3) := by decide +kernel
theorem em65_45 : decode prog_12_method_5_code 45 = .ok (.return_, 1) := by decide +kernel
/-! CapitalCase$TwoDays.giveUpAll:(I)V -/
noncomputable def zTr_69 : Nat → Option aF := bn 18 (bn 10 (bn 3 (bn 1 (bl 0 (a_const 0 1)) (bn 2 (bl 1 (a_istore 2 2)) (bl 2 (a_iload 2 3)))) (bn 4 (bl 3 (a_aload 0 4)) (bn 7 (bl 4 (a_getf zG0 zT0 10 0 7)) (bl 7 (a_getf zG0 zT0 6 1 10))))) (bn 15 (bn 13 (bl 10 (a_icmp 3 45 13)) (bn 14 (bl 13 (a_iload 1 14)) (bl 14 (a_iload 2 15)))) (bn 16 (bl 15 (a_bin fany 16)) (bn 17 (bl 16 (a_const 1 17)) (bl 17 (a_bin fand 18)))))) (bn 28 (bn 23 (bn 19 (bl 18 (a_const 1 19)) (bn 22 (bl 19 (a_icmp 1 39 22)) (bl 22 (a_aload 0 23)))) (bn 26 (bl 23 (a_getf zG0 zT0 10 3 26)) (bn 27 (bl 26 (a_iload 2 27)) (bl 27 (a_aload 0 28))))) (bn 35 (bn 31 (bl 28 (a_getf zG0 zT0 10 0 31)) (bn 34 (bl 31 (a_getf zG0 zT0 6 8 34)) (bl 34 (a_iload 2 35)))) (bn 39 (bn 36 (bl 35 (a_ald zG0 zT0 (true, false) ts0 36)) (bl 36 (a_invV zG0 zprot (true, false) zc_21 (zbd 21) (1, 0, 0) 3 3 39))) (bn 42 (bl 39 (a_iinc 2 1 42)) (bl 42 (a_goto 2))))))
set_option maxRecDepth 100000 in
set_option maxHeartbeats 4000000 in
theorem zTo_69 {pre : zPre} {post : zPost} (H : zTieC pre post) {d : Nat × Nat × Nat} (hd : zLe (1, 0, 0) d) : aTr zG0 zT0 zInv (true, false) PZ zbd pre post d prog_12_method_5_code "CapitalCase$TwoDays" zTr_69 := (xB_n (xB_n (xB_n (xB_n (xB_l ⟨_, zs_iconst (v := 0) em65_0 (by decide +kernel), as_const (by decide +kernel)⟩) (xB_n (xB_l ⟨_, zs_istore_n em65_1, as_istore⟩) (xB_l ⟨_, zs_iload_n em65_2, as_iload⟩))) (xB_n (xB_l ⟨_, zs_aload_n em65_3, as_aload⟩) (xB_n (xB_l ⟨_, zs_getf (T := TX10) (M := 9) (ci := 10) (j := 0) em65_4 rfl inX10 (by decide) wd_505 ((congrFun xo_11 22).trans rfl), as_getf zTie⟩) (xB_l ⟨_, zs_getf (T := TX6) (M := 15) (ci := 6) (j := 1) em65_7 rfl inX6 (by decide) wd_168 ((congrFun xo_11 46).trans rfl), as_getf zTie⟩)))) (xB_n (xB_n (xB_l ⟨_, zs_icmpge em65_10 (t := 45) (by decide), as_icmp⟩) (xB_n (xB_l ⟨_, zs_iload_n em65_13, as_iload⟩) (xB_l ⟨_, zs_iload_n em65_14, as_iload⟩))) (xB_n (xB_l ⟨_, zs_ishr em65_15, as_bin fany_ok⟩) (xB_n (xB_l ⟨_, zs_iconst (v := 1) em65_16 (by decide +kernel), as_const (by decide +kernel)⟩) (xB_l ⟨_, zs_iand em65_17, as_bin fand_ok⟩))))) (xB_n (xB_n (xB_n (xB_l ⟨_, zs_iconst (v := 1) em65_18 (by decide +kernel), as_const (by decide +kernel)⟩) (xB_n (xB_l ⟨_, zs_icmpne em65_19 (t := 39) (by decide), as_icmp⟩) (xB_l ⟨_, zs_aload_n em65_22, as_aload⟩))) (xB_n (xB_l ⟨_, zs_getf (T := TX10) (M := 9) (ci := 10) (j := 3) em65_23 rfl inX10 (by decide) wd_508 ((congrFun xo_11 34).trans rfl), as_getf zTie⟩) (xB_n (xB_l ⟨_, zs_iload_n em65_26, as_iload⟩) (xB_l ⟨_, zs_aload_n em65_27, as_aload⟩)))) (xB_n (xB_n (xB_l ⟨_, zs_getf (T := TX10) (M := 9) (ci := 10) (j := 0) em65_28 rfl inX10 (by decide) wd_505 ((congrFun xo_11 22).trans rfl), as_getf zTie⟩) (xB_n (xB_l ⟨_, zs_getf (T := TX6) (M := 15) (ci := 6) (j := 8) em65_31 rfl inX6 (by decide) wd_197 ((congrFun xo_11 106).trans rfl), as_getf zTie⟩) (xB_l ⟨_, zs_iload_n em65_34, as_iload⟩))) (xB_n (xB_n (xB_l ⟨_, zs_iald em65_35, ag_iald⟩) (xB_l ⟨_, zs_invV (T := TX3) em65_36 zl_21 rfl wd_1116 wd_964 wd_965 ((congrFun xo_11 109).trans rfl) xm_21, ag_invV H zh_21 hd (by decide)⟩)) (xB_n (xB_l ⟨_, zs_iinc (k := 1) em65_39 (by decide +kernel), as_iinc (by decide +kernel)⟩) (xB_l ⟨_, zs_goto em65_42 (t := 2) (by decide), as_goto⟩))))))
set_option maxRecDepth 100000 in
set_option maxHeartbeats 4000000 in
theorem zM_69 : zOKa 69 zc_69 := z_auto (cuts := [(2, ([(0, 0), (0, 127), (0, 7), (0, 7)], [], [some (.inr (.inl (0, 59))), some (.inl (1, 0)), some (.inl (3, 0))], [], [(6, 2, 0)], (0, 0)), [(0, 2)], 7, [0, 0, 0, (-1)])]) (rets := [(45, 3)]) (fuel := 1000) rfl rfl (by decide) (xrt_ok (xR_c (Or.inr (Or.inr (Or.inl ⟨rfl, em65_45, rfl⟩))) (xR_n))) (fun _ _ H _ hd => zTo_69 H hd) (by decide +kernel)
theorem em66_0 : decode prog_12_method_6_code 0 = .ok (.aload_n 0, 1) := by decide +kernel
theorem em66_1 : decode prog_12_method_6_code 1 = .ok (.getfield 12, 3) := by decide +kernel
theorem em66_4 : decode prog_12_method_6_code 4 = .ok (.aload_n 1, 1) := by decide +kernel
theorem em66_5 : decode prog_12_method_6_code 5 = .ok (.invokevirtual 113, 3) := by decide +kernel
theorem em66_8 : decode prog_12_method_6_code 8 = .ok (.iconst 0, 1) := by decide +kernel
theorem em66_9 : decode prog_12_method_6_code 9 = .ok (.istore_n 3, 1) := by decide +kernel
theorem em66_10 : decode prog_12_method_6_code 10 = .ok (.iload_n 3, 1) := by decide +kernel
theorem em66_11 : decode prog_12_method_6_code 11 = .ok (.aload_n 0, 1) := by decide +kernel
theorem em66_12 : decode prog_12_method_6_code 12 = .ok (.getfield 22, 3) := by decide +kernel
theorem em66_15 : decode prog_12_method_6_code 15 = .ok (.getfield 46, 3) := by decide +kernel
theorem em66_18 : decode prog_12_method_6_code 18 = .ok (.if_icmp .ge 37, 3) := by decide +kernel
theorem em66_21 : decode prog_12_method_6_code 21 = .ok (.iload_n 2, 1) := by decide +kernel
theorem em66_22 : decode prog_12_method_6_code 22 = .ok (.iload_n 3, 1) := by decide +kernel
theorem em66_23 : decode prog_12_method_6_code 23 = .ok (.ishr, 1) := by decide +kernel
theorem em66_24 : decode prog_12_method_6_code 24 = .ok (.iconst 1, 1) := by decide +kernel
theorem em66_25 : decode prog_12_method_6_code 25 = .ok (.iand, 1) := by decide +kernel
theorem em66_26 : decode prog_12_method_6_code 26 = .ok (.iconst 1, 1) := by decide +kernel
theorem em66_27 : decode prog_12_method_6_code 27 = .ok (.if_icmp .ne 22, 3) := by decide +kernel
theorem em66_30 : decode prog_12_method_6_code 30 = .ok (.aload_n 0, 1) := by decide +kernel
theorem em66_31 : decode prog_12_method_6_code 31 = .ok (.getfield 12, 3) := by decide +kernel
theorem em66_34 : decode prog_12_method_6_code 34 = .ok (.aload_n 0, 1) := by decide +kernel
theorem em66_35 : decode prog_12_method_6_code 35 = .ok (.getfield 22, 3) := by decide +kernel
theorem em66_38 : decode prog_12_method_6_code 38 = .ok (.iload_n 3, 1) := by decide +kernel
theorem em66_39 : decode prog_12_method_6_code 39 = .ok (.aload_n 0, 1) := by decide +kernel
theorem em66_40 : decode prog_12_method_6_code 40 = .ok (.getfield 34, 3) := by decide +kernel
theorem em66_43 : decode prog_12_method_6_code 43 = .ok (.getfield 116, 3) := by decide +kernel
theorem em66_46 : decode prog_12_method_6_code 46 = .ok (.invokevirtual 119, 3) := by decide +kernel
theorem em66_49 : decode prog_12_method_6_code 49 = .ok (.iinc 3 1, 3) := by decide +kernel
theorem em66_52 : decode prog_12_method_6_code 52 = .ok (.goto (-42), 3) := by decide +kernel
theorem em66_55 : decode prog_12_method_6_code 55 = .ok (.aload_n 0, 1) := by decide +kernel
theorem em66_56 : decode prog_12_method_6_code 56 = .ok (.getfield 30, 3) := by decide +kernel
theorem em66_59 : decode prog_12_method_6_code 59 = .ok (.aload_n 0, 1) := by decide +kernel
theorem em66_60 : decode prog_12_method_6_code 60 = .ok (.getfield 12, 3) := by decide +kernel
theorem em66_63 : decode prog_12_method_6_code 63 = .ok (.invokevirtual 123, 3) := by decide +kernel
theorem em66_66 : decode prog_12_method_6_code 66 = .ok (.aload_n 0, 1) := by decide +kernel
theorem em66_67 : decode prog_12_method_6_code 67 = .ok (.getfield 12, 3) := by decide +kernel
theorem em66_70 : decode prog_12_method_6_code 70 = .ok (.dup, 1) := by decide +kernel
theorem em66_71 : decode prog_12_method_6_code 71 = .ok (.getfield 60, 3) := by decide +kernel
theorem em66_74 : decode prog_12_method_6_code 74 = .ok (.iconst 1, 1) := by decide +kernel
theorem em66_75 : decode prog_12_method_6_code 75 = .ok (.iadd, 1) := by decide +kernel
theorem em66_76 : decode prog_12_method_6_code 76 = .ok (.putfield 60, 3) := by decide +kernel
theorem em66_79 : decode prog_12_method_6_code 79 = .ok (.iconst 0, 1) := by decide +kernel
theorem em66_80 : decode prog_12_method_6_code 80 = .ok (.istore_n 3, 1) := by decide +kernel
theorem em66_81 : decode prog_12_method_6_code 81 = .ok (.iload_n 3, 1) := by decide +kernel
theorem em66_82 : decode prog_12_method_6_code 82 = .ok (.aload_n 0, 1) := by decide +kernel
theorem em66_83 : decode prog_12_method_6_code 83 = .ok (.getfield 22, 3) := by decide +kernel
theorem em66_86 : decode prog_12_method_6_code 86 = .ok (.getfield 46, 3) := by decide +kernel
theorem em66_89 : decode prog_12_method_6_code 89 = .ok (.if_icmp .ge 30, 3) := by decide +kernel
theorem em66_92 : decode prog_12_method_6_code 92 = .ok (.iload_n 2, 1) := by decide +kernel
theorem em66_93 : decode prog_12_method_6_code 93 = .ok (.iload_n 3, 1) := by decide +kernel
theorem em66_94 : decode prog_12_method_6_code 94 = .ok (.ishr, 1) := by decide +kernel
theorem em66_95 : decode prog_12_method_6_code 95 = .ok (.iconst 1, 1) := by decide +kernel
theorem em66_96 : decode prog_12_method_6_code 96 = .ok (.iand, 1) := by decide +kernel
theorem em66_97 : decode prog_12_method_6_code 97 = .ok (.iconst 1, 1) := by decide +kernel
theorem em66_98 : decode prog_12_method_6_code 98 = .ok (.if_icmp .ne 15, 3) := by decide +kernel
theorem em66_101 : decode prog_12_method_6_code 101 = .ok (.aload_n 0, 1) := by decide +kernel
theorem em66_102 : decode prog_12_method_6_code 102 = .ok (.getfield 12, 3) := by decide +kernel
theorem em66_105 : decode prog_12_method_6_code 105 = .ok (.aload_n 0, 1) := by decide +kernel
theorem em66_106 : decode prog_12_method_6_code 106 = .ok (.getfield 22, 3) := by decide +kernel
theorem em66_109 : decode prog_12_method_6_code 109 = .ok (.iload_n 3, 1) := by decide +kernel
theorem em66_110 : decode prog_12_method_6_code 110 = .ok (.invokevirtual 126, 3) := by decide +kernel
theorem em66_113 : decode prog_12_method_6_code 113 = .ok (.iinc 3 1, 3) := by decide +kernel
theorem em66_116 : decode prog_12_method_6_code 116 = .ok (.goto (-35), 3) := by decide +kernel
theorem em66_119 : decode prog_12_method_6_code 119 = .ok (.return_, 1) := by decide +kernel
/-! CapitalCase$TwoDays.passFirst:(LCapitalCase$Town;I)V -/
noncomputable def zTr_70 : Nat → Option aF := bn 59 (bn 25 (bn 11 (bn 5 (bn 1 (bl 0 (a_aload 0 1)) (bn 4 (bl 1 (a_getf zG0 zT0 10 5 4)) (bl 4 (a_aload 1 5)))) (bn 9 (bn 8 (bl 5 (a_invV zG0 zprot (true, false) zc_53 (zbd 53) (9, 0, 0) 8 2 8)) (bl 8 (a_const 0 9))) (bn 10 (bl 9 (a_istore 3 10)) (bl 10 (a_iload 3 11))))) (bn 21 (bn 15 (bn 12 (bl 11 (a_aload 0 12)) (bl 12 (a_getf zG0 zT0 10 0 15))) (bn 18 (bl 15 (a_getf zG0 zT0 6 1 18)) (bl 18 (a_icmp 3 55 21)))) (bn 23 (bn 22 (bl 21 (a_iload 2 22)) (bl 22 (a_iload 3 23))) (bn 24 (bl 23 (a_bin fany 24)) (bl 24 (a_const 1 25)))))) (bn 39 (bn 31 (bn 27 (bn 26 (bl 25 (a_bin fand 26)) (bl 26 (a_const 1 27))) (bn 30 (bl 27 (a_icmp 1 49 30)) (bl 30 (a_aload 0 31)))) (bn 35 (bn 34 (bl 31 (a_getf zG0 zT0 10 5 34)) (bl 34 (a_aload 0 35))) (bn 38 (bl 35 (a_getf zG0 zT0 10 0 38)) (bl 38 (a_iload 3 39))))) (bn 49 (bn 43 (bn 40 (bl 39 (a_aload 0 40)) (bl 40 (a_getf zG0 zT0 10 3 43))) (bn 46 (bl 43 (a_getf zG0 zT0 3 3 46)) (bl 46 (a_invV zG0 zprot (true, false) zc_56 (zbd 56) (9, 0, 0) 8 4 49)))) (bn 55 (bn 52 (bl 49 (a_iinc 3 1 52)) (bl 52 (a_goto 10))) (bn 56 (bl 55 (a_aload 0 56)) (bl 56 (a_getf zG0 zT0 10 2 59))))))) (bn 89 (bn 75 (bn 67 (bn 63 (bn 60 (bl 59 (a_aload 0 60)) (bl 60 (a_getf zG0 zT0 10 5 63))) (bn 66 (bl 63 (a_invV zG0 zprot (true, false) zc_40 (zbd 40) (9, 0, 0) 4 2 66)) (bl 66 (a_aload 0 67)))) (bn 71 (bn 70 (bl 67 (a_getf zG0 zT0 10 5 70)) (bl 70 (a_dup 71))) (bn 74 (bl 71 (a_getf zG0 zT0 8 7 74)) (bl 74 (a_const 1 75))))) (bn 81 (bn 79 (bn 76 (bl 75 (a_bin fadd 76)) (bl 76 (a_puti zG0 zT0 zprot 8 7 0 79))) (bn 80 (bl 79 (a_const 0 80)) (bl 80 (a_istore 3 81)))) (bn 83 (bn 82 (bl 81 (a_iload 3 82)) (bl 82 (a_aload 0 83))) (bn 86 (bl 83 (a_getf zG0 zT0 10 0 86)) (bl 86 (a_getf zG0 zT0 6 1 89)))))) (bn 101 (bn 95 (bn 93 (bn 92 (bl 89 (a_icmp 3 119 92)) (bl 92 (a_iload 2 93))) (bn 94 (bl 93 (a_iload 3 94)) (bl 94 (a_bin fany 95)))) (bn 97 (bn 96 (bl 95 (a_const 1 96)) (bl 96 (a_bin fand 97))) (bn 98 (bl 97 (a_const 1 98)) (bl 98 (a_icmp 1 113 101))))) (bn 109 (bn 105 (bn 102 (bl 101 (a_aload 0 102)) (bl 102 (a_getf zG0 zT0 10 5 105))) (bn 106 (bl 105 (a_aload 0 106)) (bl 106 (a_getf zG0 zT0 10 0 109)))) (bn 113 (bn 110 (bl 109 (a_iload 3 110)) (bl 110 (a_invV zG0 zprot (true, false) zc_59 (zbd 59) (9, 0, 0) 8 3 113))) (bn 116 (bl 113 (a_iinc 3 1 116)) (bl 116 (a_goto 81)))))))
set_option maxRecDepth 100000 in
set_option maxHeartbeats 4000000 in
theorem zTo_70 {pre : zPre} {post : zPost} (H : zTieC pre post) {d : Nat × Nat × Nat} (hd : zLe (9, 0, 0) d) : aTr zG0 zT0 zInv (true, false) PZ zbd pre post d prog_12_method_6_code "CapitalCase$TwoDays" zTr_70 := (xB_n (xB_n (xB_n (xB_n (xB_n (xB_l ⟨_, zs_aload_n em66_0, as_aload⟩) (xB_n (xB_l ⟨_, zs_getf (T := TX10) (M := 9) (ci := 10) (j := 5) em66_1 rfl inX10 (by decide) wd_510 ((congrFun xo_11 12).trans rfl), as_getf zTie⟩) (xB_l ⟨_, zs_aload_n em66_4, as_aload⟩))) (xB_n (xB_n (xB_l ⟨_, zs_invV (T := TX8) em66_5 zl_53 rfl wd_1121 wd_973 wd_974 ((congrFun xo_11 113).trans rfl) xm_49, ag_invV H zh_53 hd (by decide)⟩) (xB_l ⟨_, zs_iconst (v := 0) em66_8 (by decide +kernel), as_const (by decide +kernel)⟩)) (xB_n (xB_l ⟨_, zs_istore_n em66_9, as_istore⟩) (xB_l ⟨_, zs_iload_n em66_10, as_iload⟩)))) (xB_n (xB_n (xB_n (xB_l ⟨_, zs_aload_n em66_11, as_aload⟩) (xB_l ⟨_, zs_getf (T := TX10) (M := 9) (ci := 10) (j := 0) em66_12 rfl inX10 (by decide) wd_505 ((congrFun xo_11 22).trans rfl), as_getf zTie⟩)) (xB_n (xB_l ⟨_, zs_getf (T := TX6) (M := 15) (ci := 6) (j := 1) em66_15 rfl inX6 (by decide) wd_168 ((congrFun xo_11 46).trans rfl), as_getf zTie⟩) (xB_l ⟨_, zs_icmpge em66_18 (t := 55) (by decide), as_icmp⟩))) (xB_n (xB_n (xB_l ⟨_, zs_iload_n em66_21, as_iload⟩) (xB_l ⟨_, zs_iload_n em66_22, as_iload⟩)) (xB_n (xB_l ⟨_, zs_ishr em66_23, as_bin fany_ok⟩) (xB_l ⟨_, zs_iconst (v := 1) em66_24 (by decide +kernel), as_const (by decide +kernel)⟩))))) (xB_n (xB_n (xB_n (xB_n (xB_l ⟨_, zs_iand em66_25, as_bin fand_ok⟩) (xB_l ⟨_, zs_iconst (v := 1) em66_26 (by decide +kernel), as_const (by decide +kernel)⟩)) (xB_n (xB_l ⟨_, zs_icmpne em66_27 (t := 49) (by decide), as_icmp⟩) (xB_l ⟨_, zs_aload_n em66_30, as_aload⟩))) (xB_n (xB_n (xB_l ⟨_, zs_getf (T := TX10) (M := 9) (ci := 10) (j := 5) em66_31 rfl inX10 (by decide) wd_510 ((congrFun xo_11 12).trans rfl), as_getf zTie⟩) (xB_l ⟨_, zs_aload_n em66_34, as_aload⟩)) (xB_n (xB_l ⟨_, zs_getf (T := TX10) (M := 9) (ci := 10) (j := 0) em66_35 rfl inX10 (by decide) wd_505 ((congrFun xo_11 22).trans rfl), as_getf zTie⟩) (xB_l ⟨_, zs_iload_n em66_38, as_iload⟩)))) (xB_n (xB_n (xB_n (xB_l ⟨_, zs_aload_n em66_39, as_aload⟩) (xB_l ⟨_, zs_getf (T := TX10) (M := 9) (ci := 10) (j := 3) em66_40 rfl inX10 (by decide) wd_508 ((congrFun xo_11 34).trans rfl), as_getf zTie⟩)) (xB_n (xB_l ⟨_, zs_getf (T := TX3) (M := 12) (ci := 3) (j := 3) em66_43 rfl inX3 (by decide) wd_455 ((congrFun xo_11 116).trans rfl), as_getf zTie⟩) (xB_l ⟨_, zs_invV (T := TX8) em66_46 zl_56 rfl wd_1122 wd_978 wd_979 ((congrFun xo_11 119).trans rfl) xm_52, ag_invV H zh_56 hd (by decide)⟩))) (xB_n (xB_n (xB_l ⟨_, zs_iinc (k := 1) em66_49 (by decide +kernel), as_iinc (by decide +kernel)⟩) (xB_l ⟨_, zs_goto em66_52 (t := 10) (by decide), as_goto⟩)) (xB_n (xB_l ⟨_, zs_aload_n em66_55, as_aload⟩) (xB_l ⟨_, zs_getf (T := TX10) (M := 9) (ci := 10) (j := 2) em66_56 rfl inX10 (by decide) wd_507 ((congrFun xo_11 30).trans rfl), as_getf zTie⟩)))))) (xB_n (xB_n (xB_n (xB_n (xB_n (xB_l ⟨_, zs_aload_n em66_59, as_aload⟩) (xB_l ⟨_, zs_getf (T := TX10) (M := 9) (ci := 10) (j := 5) em66_60 rfl inX10 (by decide) wd_510 ((congrFun xo_11 12).trans rfl), as_getf zTie⟩)) (xB_n (xB_l ⟨_, zs_invV (T := TX4) em66_63 zl_40 rfl wd_1123 wd_1010 wd_1011 ((congrFun xo_11 123).trans rfl) xm_39, ag_invV H zh_40 hd (by decide)⟩) (xB_l ⟨_, zs_aload_n em66_66, as_aload⟩))) (xB_n (xB_n (xB_l ⟨_, zs_getf (T := TX10) (M := 9) (ci := 10) (j := 5) em66_67 rfl inX10 (by decide) wd_510 ((congrFun xo_11 12).trans rfl), as_getf zTie⟩) (xB_l ⟨_, zs_dup em66_70, as_dup⟩)) (xB_n (xB_l ⟨_, zs_getf (T := TX8) (M := 10) (ci := 8) (j := 7) em66_71 rfl inX8 (by decide) wd_345 ((congrFun xo_11 60).trans rfl), as_getf zTie⟩) (xB_l ⟨_, zs_iconst (v := 1) em66_74 (by decide +kernel), as_const (by decide +kernel)⟩)))) (xB_n (xB_n (xB_n (xB_l ⟨_, zs_iadd em66_75, as_bin fadd_ok⟩) (xB_l ⟨_, zs_puti zInj0 (T := TX8) (M := 10) (ty := tyX8) (ci := 8) (j := 7) (kd := 0) em66_76 rfl inX8 tyX8_ok nmX8 (by decide) wd_345 (Or.inl ⟨rfl, rfl⟩) rfl ((congrFun xo_11 60).trans rfl), ag_puti0⟩)) (xB_n (xB_l ⟨_, zs_iconst (v := 0) em66_79 (by decide +kernel), as_const (by decide +kernel)⟩) (xB_l ⟨_, zs_istore_n em66_80, as_istore⟩))) (xB_n (xB_n (xB_l ⟨_, zs_iload_n em66_81, as_iload⟩) (xB_l ⟨_, zs_aload_n em66_82, as_aload⟩)) (xB_n (xB_l ⟨_, zs_getf (T := TX10) (M := 9) (ci := 10) (j := 0) em66_83 rfl inX10 (by decide) wd_505 ((congrFun xo_11 22).trans rfl), as_getf zTie⟩) (xB_l ⟨_, zs_getf (T := TX6) (M := 15) (ci := 6) (j := 1) em66_86 rfl inX6 (by decide) wd_168 ((congrFun xo_11 46).trans rfl), as_getf zTie⟩))))) (xB_n (xB_n (xB_n (xB_n (xB_l ⟨_, zs_icmpge em66_89 (t := 119) (by decide), as_icmp⟩) (xB_l ⟨_, zs_iload_n em66_92, as_iload⟩)) (xB_n (xB_l ⟨_, zs_iload_n em66_93, as_iload⟩) (xB_l ⟨_, zs_ishr em66_94, as_bin fany_ok⟩))) (xB_n (xB_n (xB_l ⟨_, zs_iconst (v := 1) em66_95 (by decide +kernel), as_const (by decide +kernel)⟩) (xB_l ⟨_, zs_iand em66_96, as_bin fand_ok⟩)) (xB_n (xB_l ⟨_, zs_iconst (v := 1) em66_97 (by decide +kernel), as_const (by decide +kernel)⟩) (xB_l ⟨_, zs_icmpne em66_98 (t := 113) (by decide), as_icmp⟩)))) (xB_n (xB_n (xB_n (xB_l ⟨_, zs_aload_n em66_101, as_aload⟩) (xB_l ⟨_, zs_getf (T := TX10) (M := 9) (ci := 10) (j := 5) em66_102 rfl inX10 (by decide) wd_510 ((congrFun xo_11 12).trans rfl), as_getf zTie⟩)) (xB_n (xB_l ⟨_, zs_aload_n em66_105, as_aload⟩) (xB_l ⟨_, zs_getf (T := TX10) (M := 9) (ci := 10) (j := 0) em66_106 rfl inX10 (by decide) wd_505 ((congrFun xo_11 22).trans rfl), as_getf zTie⟩))) (xB_n (xB_n (xB_l ⟨_, zs_iload_n em66_109, as_iload⟩) (xB_l ⟨_, zs_invV (T := TX8) em66_110 zl_59 rfl wd_1124 wd_986 wd_987 ((congrFun xo_11 126).trans rfl) xm_55, ag_invV H zh_59 hd (by decide)⟩)) (xB_n (xB_l ⟨_, zs_iinc (k := 1) em66_113 (by decide +kernel), as_iinc (by decide +kernel)⟩) (xB_l ⟨_, zs_goto em66_116 (t := 81) (by decide), as_goto⟩)))))))
set_option maxRecDepth 100000 in
set_option maxHeartbeats 4000000 in
theorem zM_70 : zOKa 70 zc_70 := z_auto (cuts := [(10, ([(0, 0), (0, 127), (0, 408), (0, 5), (0, 7), (0, 7)], [], [some (.inr (.inl (0, 59))), some (.inr (.inl (1, 1000))), some (.inl (1, 0)), some (.inl (5, 0))], [], [(4, 2, 0), (5, 3, 0), (6, 4, 0)], (0, 0)), [(0, 3)], 15, [0, 0, 0, 0, 0, (-1)]), (81, ([(0, 0), (0, 127), (0, 408), (0, 5), (0, 7), (0, 7)], [], [some (.inr (.inl (0, 59))), some (.inr (.inl (1, 1000))), some (.inl (1, 0)), some (.inl (5, 0))], [], [(4, 2, 0), (5, 3, 0), (6, 4, 0)], (0, 0)), [(0, 3)], 7, [0, 0, 0, 0, 0, (-1)])]) (rets := [(119, 3)]) (fuel := 1000) rfl rfl (by decide) (xrt_ok (xR_c (Or.inr (Or.inr (Or.inl ⟨rfl, em66_119, rfl⟩))) (xR_n))) (fun _ _ H _ hd => zTo_70 H hd) (by decide +kernel)
theorem em67_0 : decode prog_12_method_2_code 0 = .ok (.aload_n 1, 1) := by decide +kernel
theorem em67_1 : decode prog_12_method_2_code 1 = .ok (.aload_n 0, 1) := by decide +kernel
theorem em67_2 : decode prog_12_method_2_code 2 = .ok (.getfield 22, 3) := by decide +kernel
theorem em67_5 : decode prog_12_method_2_code 5 = .ok (.getfield 46, 3) := by decide +kernel
theorem em67_8 : decode prog_12_method_2_code 8 = .ok (.invokevirtual 52, 3) := by decide +kernel
theorem em67_11 : decode prog_12_method_2_code 11 = .ok (.istore_n 2, 1) := by decide +kernel
theorem em67_12 : decode prog_12_method_2_code 12 = .ok (.aload_n 0, 1) := by decide +kernel
theorem em67_13 : decode prog_12_method_2_code 13 = .ok (.getfield 34, 3) := by decide +kernel
theorem em67_16 : decode prog_12_method_2_code 16 = .ok (.aload_n 1, 1) := by decide +kernel
theorem em67_17 : decode prog_12_method_2_code 17 = .ok (.iload_n 2, 1) := by decide +kernel
theorem em67_18 : decode prog_12_method_2_code 18 = .ok (.invokevirtual 56, 3) := by decide +kernel
theorem em67_21 : decode prog_12_method_2_code 21 = .ok (.iconst 0, 1) := by decide +kernel
theorem em67_22 : decode prog_12_method_2_code 22 = .ok (.istore_n 3, 1) := by decide +kernel
theorem em67_23 : decode prog_12_method_2_code 23 = .ok (.iload_n 3, 1) := by decide +kernel
theorem em67_24 : decode prog_12_method_2_code 24 = .ok (.aload_n 0, 1) := by decide +kernel
theorem em67_25 : decode prog_12_method_2_code 25 = .ok (.getfield 22, 3) := by decide +kernel
theorem em67_28 : decode prog_12_method_2_code 28 = .ok (.getfield 46, 3) := by decide +kernel
theorem em67_31 : decode prog_12_method_2_code 31 = .ok (.if_icmp .ge 29, 3) := by decide +kernel
theorem em67_34 : decode prog_12_method_2_code 34 = .ok (.aload_n 0, 1) := by decide +kernel
theorem em67_35 : decode prog_12_method_2_code 35 = .ok (.getfield 18, 3) := by decide +kernel
theorem em67_38 : decode prog_12_method_2_code 38 = .ok (.iload_n 3, 1) := by decide +kernel
theorem em67_39 : decode prog_12_method_2_code 39 = .ok (.aload_n 0, 1) := by decide +kernel
theorem em67_40 : decode prog_12_method_2_code 40 = .ok (.getfield 26, 3) := by decide +kernel
theorem em67_43 : decode prog_12_method_2_code 43 = .ok (.iload_n 3, 1) := by decide +kernel
theorem em67_44 : decode prog_12_method_2_code 44 = .ok (.aload_n 1, 1) := by decide +kernel
theorem em67_45 : decode prog_12_method_2_code 45 = .ok (.getfield 60, 3) := by decide +kernel
theorem em67_48 : decode prog_12_method_2_code 48 = .ok (.iconst 1, 1) := by decide +kernel
theorem em67_49 : decode prog_12_method_2_code 49 = .ok (.iadd, 1) := by decide +kernel
theorem em67_50 : decode prog_12_method_2_code 50 = .ok (.invokevirtual 63, 3) := by decide +kernel
theorem em67_53 : decode prog_12_method_2_code 53 = .ok (.iastore, 1) := by decide +kernel
theorem em67_54 : decode prog_12_method_2_code 54 = .ok (.iinc 3 1, 3) := by decide +kernel
theorem em67_57 : decode prog_12_method_2_code 57 = .ok (.goto (-34), 3) := by decide +kernel
theorem em67_60 : decode prog_12_method_2_code 60 = .ok (.aload_n 0, 1) := by decide +kernel
theorem em67_61 : decode prog_12_method_2_code 61 = .ok (.getfield 30, 3) := by decide +kernel
theorem em67_64 : decode prog_12_method_2_code 64 = .ok (.aload_n 1, 1) := by decide +kernel
theorem em67_65 : decode prog_12_method_2_code 65 = .ok (.invokevirtual 69, 3) := by decide +kernel
theorem em67_68 : decode prog_12_method_2_code 68 = .ok (.istore_n 3, 1) := by decide +kernel
theorem em67_69 : decode prog_12_method_2_code 69 = .ok (.aload_n 0, 1) := by decide +kernel
theorem em67_70 : decode prog_12_method_2_code 70 = .ok (.iconst (-1), 1) := by decide +kernel
theorem em67_71 : decode prog_12_method_2_code 71 = .ok (.putfield 75, 3) := by decide +kernel
theorem em67_74 : decode prog_12_method_2_code 74 = .ok (.aload_n 0, 1) := by decide +kernel
theorem em67_75 : decode prog_12_method_2_code 75 = .ok (.iconst 0, 1) := by decide +kernel
theorem em67_76 : decode prog_12_method_2_code 76 = .ok (.putfield 78, 3) := by decide +kernel
theorem em67_79 : decode prog_12_method_2_code 79 = .ok (.iconst 0, 1) := by decide +kernel
theorem em67_80 : decode prog_12_method_2_code 80 = .ok (.istore 4, 2) := by decide +kernel
theorem em67_82 : decode prog_12_method_2_code 82 = .ok (.iload 4, 2) := by decide +kernel
theorem em67_84 : decode prog_12_method_2_code 84 = .ok (.iconst 1, 1) := by decide +kernel
theorem em67_85 : decode prog_12_method_2_code 85 = .ok (.aload_n 0, 1) := by decide +kernel
theorem em67_86 : decode prog_12_method_2_code 86 = .ok (.getfield 22, 3) := by decide +kernel
theorem em67_89 : decode prog_12_method_2_code 89 = .ok (.getfield 46, 3) := by decide +kernel
theorem em67_92 : decode prog_12_method_2_code 92 = .ok (.ishl, 1) := by decide +kernel
theorem em67_93 : decode prog_12_method_2_code 93 = .ok (.if_icmp .ge 135, 3) := by decide +kernel
theorem em67_96 : decode prog_12_method_2_code 96 = .ok (.iload 4, 2) := by decide +kernel
theorem em67_98 : decode prog_12_method_2_code 98 = .ok (.iload_n 2, 1) := by decide +kernel
theorem em67_99 : decode prog_12_method_2_code 99 = .ok (.iconst (-1), 1) := by decide +kernel
theorem em67_100 : decode prog_12_method_2_code 100 = .ok (.ixor, 1) := by decide +kernel
theorem em67_101 : decode prog_12_method_2_code 101 = .ok (.iand, 1) := by decide +kernel
theorem em67_102 : decode prog_12_method_2_code 102 = .ok (.ifCond .eq 6, 3) := by decide +kernel
theorem em67_105 : decode prog_12_method_2_code 105 = .ok (.goto 117, 3) := by decide +kernel
theorem em67_108 : decode prog_12_method_2_code 108 = .ok (.iload_n 3, 1) := by decide +kernel
theorem em67_109 : decode prog_12_method_2_code 109 = .ok (.aload_n 0, 1) := by decide +kernel
theorem em67_110 : decode prog_12_method_2_code 110 = .ok (.aload_n 0, 1) := by decide +kernel
theorem em67_111 : decode prog_12_method_2_code 111 = .ok (.getfield 34, 3) := by decide +kernel
theorem em67_114 : decode prog_12_method_2_code 114 = .ok (.getfield 81, 3) := by decide +kernel
theorem em67_117 : decode prog_12_method_2_code 117 = .ok (.iload 4, 2) := by decide +kernel
theorem em67_119 : decode prog_12_method_2_code 119 = .ok (.invokevirtual 83, 3) := by decide +kernel
theorem em67_122 : decode prog_12_method_2_code 122 = .ok (.iadd, 1) := by decide +kernel
theorem em67_123 : decode prog_12_method_2_code 123 = .ok (.istore 5, 2) := by decide +kernel
theorem em67_125 : decode prog_12_method_2_code 125 = .ok (.iload 5, 2) := by decide +kernel
theorem em67_127 : decode prog_12_method_2_code 127 = .ok (.aload_n 0, 1) := by decide +kernel
theorem em67_128 : decode prog_12_method_2_code 128 = .ok (.aload_n 0, 1) := by decide +kernel
theorem em67_129 : decode prog_12_method_2_code 129 = .ok (.getfield 18, 3) := by decide +kernel
theorem em67_132 : decode prog_12_method_2_code 132 = .ok (.iload_n 2, 1) := by decide +kernel
theorem em67_133 : decode prog_12_method_2_code 133 = .ok (.iload 4, 2) := by decide +kernel
theorem em67_135 : decode prog_12_method_2_code 135 = .ok (.iconst (-1), 1) := by decide +kernel
theorem em67_136 : decode prog_12_method_2_code 136 = .ok (.ixor, 1) := by decide +kernel
theorem em67_137 : decode prog_12_method_2_code 137 = .ok (.iand, 1) := by decide +kernel
theorem em67_138 : decode prog_12_method_2_code 138 = .ok (.invokevirtual 83, 3) := by decide +kernel
theorem em67_141 : decode prog_12_method_2_code 141 = .ok (.iadd, 1) := by decide +kernel
theorem em67_142 : decode prog_12_method_2_code 142 = .ok (.aload_n 0, 1) := by decide +kernel
theorem em67_143 : decode prog_12_method_2_code 143 = .ok (.getfield 75, 3) := by decide +kernel
theorem em67_146 : decode prog_12_method_2_code 146 = .ok (.if_icmp .le 76, 3) := by decide +kernel
theorem em67_149 : decode prog_12_method_2_code 149 = .ok (.aload_n 0, 1) := by decide +kernel
theorem em67_150 : decode prog_12_method_2_code 150 = .ok (.iload 4, 2) := by decide +kernel
theorem em67_152 : decode prog_12_method_2_code 152 = .ok (.invokevirtual 87, 3) := by decide +kernel
theorem em67_155 : decode prog_12_method_2_code 155 = .ok (.ifCond .ne 6, 3) := by decide +kernel
theorem em67_158 : decode prog_12_method_2_code 158 = .ok (.goto 64, 3) := by decide +kernel
theorem em67_161 : decode prog_12_method_2_code 161 = .ok (.aload_n 0, 1) := by decide +kernel
theorem em67_162 : decode prog_12_method_2_code 162 = .ok (.aload_n 1, 1) := by decide +kernel
theorem em67_163 : decode prog_12_method_2_code 163 = .ok (.iload 4, 2) := by decide +kernel
theorem em67_165 : decode prog_12_method_2_code 165 = .ok (.invokevirtual 91, 3) := by decide +kernel
theorem em67_168 : decode prog_12_method_2_code 168 = .ok (.aload_n 0, 1) := by decide +kernel
theorem em67_169 : decode prog_12_method_2_code 169 = .ok (.iload 4, 2) := by decide +kernel
theorem em67_171 : decode prog_12_method_2_code 171 = .ok (.invokevirtual 94, 3) := by decide +kernel
theorem em67_174 : decode prog_12_method_2_code 174 = .ok (.aload_n 0, 1) := by decide +kernel
theorem em67_175 : decode prog_12_method_2_code 175 = .ok (.getfield 43, 3) := by decide +kernel
theorem em67_178 : decode prog_12_method_2_code 178 = .ok (.aload_n 0, 1) := by decide +kernel
theorem em67_179 : decode prog_12_method_2_code 179 = .ok (.getfield 12, 3) := by decide +kernel
theorem em67_182 : decode prog_12_method_2_code 182 = .ok (.invokevirtual 98, 3) := by decide +kernel
theorem em67_185 : decode prog_12_method_2_code 185 = .ok (.iload 5, 2) := by decide +kernel
theorem em67_187 : decode prog_12_method_2_code 187 = .ok (.aload_n 0, 1) := by decide +kernel
theorem em67_188 : decode prog_12_method_2_code 188 = .ok (.getfield 43, 3) := by decide +kernel
theorem em67_191 : decode prog_12_method_2_code 191 = .ok (.getfield 102, 3) := by decide +kernel
theorem em67_194 : decode prog_12_method_2_code 194 = .ok (.iadd, 1) := by decide +kernel
theorem em67_195 : decode prog_12_method_2_code 195 = .ok (.aload_n 0, 1) := by decide +kernel
theorem em67_196 : decode prog_12_method_2_code 196 = .ok (.getfield 75, 3) := by decide +kernel
theorem em67_199 : decode prog_12_method_2_code 199 = .ok (.if_icmp .le 23, 3) := by decide +kernel
theorem em67_202 : decode prog_12_method_2_code 202 = .ok (.aload_n 0, 1) := by decide +kernel
theorem em67_203 : decode prog_12_method_2_code 203 = .ok (.iload 5, 2) := by decide +kernel
theorem em67_205 : decode prog_12_method_2_code 205 = .ok (.aload_n 0, 1) := by decide +kernel
theorem em67_206 : decode prog_12_method_2_code 206 = .ok (.getfield 43, 3) := by decide +kernel
theorem em67_209 : decode prog_12_method_2_code 209 = .ok (.getfield 102, 3) := by decide +kernel
theorem em67_212 : decode prog_12_method_2_code 212 = .ok (.iadd, 1) := by decide +kernel
theorem em67_213 : decode prog_12_method_2_code 213 = .ok (.putfield 75, 3) := by decide +kernel
theorem em67_216 : decode prog_12_method_2_code 216 = .ok (.aload_n 0, 1) := by decide +kernel
theorem em67_217 : decode prog_12_method_2_code 217 = .ok (.iload 4, 2) := by decide +kernel
theorem em67_219 : decode prog_12_method_2_code 219 = .ok (.putfield 78, 3) := by decide +kernel
theorem em67_222 : decode prog_12_method_2_code 222 = .ok (.iinc 4 1, 3) := by decide +kernel
theorem em67_225 : decode prog_12_method_2_code 225 = .ok (.goto (-143), 3) := by decide +kernel
theorem em67_228 : decode prog_12_method_2_code 228 = .ok (.return_, 1) := by decide +kernel
/-! CapitalCase$TwoDays.seek:(LCapitalCase$Town;)V -/
noncomputable def zTr_71 : Nat → Option aF := bn 108 (bn 53 (bn 24 (bn 13 (bn 5 (bn 1 (bl 0 (a_aload 1 1)) (bn 2 (bl 1 (a_aload 0 2)) (bl 2 (a_getf zG0 zT0 10 0 5)))) (bn 11 (bn 8 (bl 5 (a_getf zG0 zT0 6 1 8)) (bl 8 (a_invV zG0 zprot (true, false) zc_62 (zbd 62) (22, 0, 0) 8 2 11))) (bn 12 (bl 11 (a_istore 2 12)) (bl 12 (a_aload 0 13))))) (bn 18 (bn 16 (bl 13 (a_getf zG0 zT0 10 3 16)) (bn 17 (bl 16 (a_aload 1 17)) (bl 17 (a_iload 2 18)))) (bn 22 (bn 21 (bl 18 (a_invV zG0 zprot (true, false) zc_26 (zbd 26) (22, 0, 0) 3 3 21)) (bl 21 (a_const 0 22))) (bn 23 (bl 22 (a_istore 3 23)) (bl 23 (a_iload 3 24)))))) (bn 39 (bn 31 (bn 25 (bl 24 (a_aload 0 25)) (bn 28 (bl 25 (a_getf zG0 zT0 10 0 28)) (bl 28 (a_getf zG0 zT0 6 1 31)))) (bn 35 (bn 34 (bl 31 (a_icmp 3 60 34)) (bl 34 (a_aload 0 35))) (bn 38 (bl 35 (a_getf zG0 zT0 10 8 38)) (bl 38 (a_iload 3 39))))) (bn 45 (bn 43 (bn 40 (bl 39 (a_aload 0 40)) (bl 40 (a_getf zG0 zT0 10 1 43))) (bn 44 (bl 43 (a_iload 3 44)) (bl 44 (a_aload 1 45)))) (bn 49 (bn 48 (bl 45 (a_getf zG0 zT0 8 7 48)) (bl 48 (a_const 1 49))) (bn 50 (bl 49 (a_bin fadd 50)) (bl 50 (a_invV zG0 zprot (true, false) zc_6 (zbd 6) (22, 0, 0) 1 3 53))))))) (bn 80 (bn 68 (bn 60 (bn 54 (bl 53 (a_ast zG0 zT0 ts0 54)) (bn 57 (bl 54 (a_iinc 3 1 57)) (bl 57 (a_goto 23)))) (bn 64 (bn 61 (bl 60 (a_aload 0 61)) (bl 61 (a_getf zG0 zT0 10 2 64))) (bn 65 (bl 64 (a_aload 1 65)) (bl 65 (a_invV zG0 zprot (true, false) zc_35 (zbd 35) (22, 0, 0) 4 2 68))))) (bn 74 (bn 70 (bn 69 (bl 68 (a_istore 3 69)) (bl 69 (a_aload 0 70))) (bn 71 (bl 70 (a_const (-1) 71)) (bl 71 (a_puti zG0 zT0 zprot 10 6 0 74)))) (bn 76 (bn 75 (bl 74 (a_aload 0 75)) (bl 75 (a_const 0 76))) (bn 79 (bl 76 (a_puti zG0 zT0 zprot 10 7 0 79)) (bl 79 (a_const 0 80)))))) (bn 93 (bn 85 (bn 82 (bl 80 (a_istore 4 82)) (bn 84 (bl 82 (a_iload 4 84)) (bl 84 (a_const 1 85)))) (bn 89 (bn 86 (bl 85 (a_aload 0 86)) (bl 86 (a_getf zG0 zT0 10 0 89))) (bn 92 (bl 89 (a_getf zG0 zT0 6 1 92)) (bl 92 (a_bin fshl 93))))) (bn 100 (bn 98 (bn 96 (bl 93 (a_icmp 3 228 96)) (bl 96 (a_iload 4 98))) (bn 99 (bl 98 (a_iload 2 99)) (bl 99 (a_const (-1) 100)))) (bn 102 (bn 101 (bl 100 (a_bin fany 101)) (bl 101 (a_bin fand 102))) (bn 105 (bl 102 (a_if 0 108 105)) (bl 105 (a_goto 222)))))))) (bn 163 (bn 135 (bn 122 (bn 111 (bn 109 (bl 108 (a_iload 3 109)) (bn 110 (bl 109 (a_aload 0 110)) (bl 110 (a_aload 0 111)))) (bn 117 (bn 114 (bl 111 (a_getf zG0 zT0 10 3 114)) (bl 114 (a_getf zG0 zT0 3 4 117))) (bn 119 (bl 117 (a_iload 4 119)) (bl 119 (a_invV zG0 zprot (true, false) zc_73 (zbd 73) (22, 0, 0) 10 3 122))))) (bn 128 (bn 125 (bn 123 (bl 122 (a_bin fadd 123)) (bl 123 (a_istore 5 125))) (bn 127 (bl 125 (a_iload 5 127)) (bl 127 (a_aload 0 128)))) (bn 132 (bn 129 (bl 128 (a_aload 0 129)) (bl 129 (a_getf zG0 zT0 10 8 132))) (bn 133 (bl 132 (a_iload 2 133)) (bl 133 (a_iload 4 135)))))) (bn 146 (bn 138 (bn 136 (bl 135 (a_const (-1) 136)) (bn 137 (bl 136 (a_bin fany 137)) (bl 137 (a_bin fand 138)))) (bn 142 (bn 141 (bl 138 (a_invV zG0 zprot (true, false) zc_74 (zbd 74) (22, 0, 0) 10 3 141)) (bl 141 (a_bin fadd 142))) (bn 143 (bl 142 (a_aload 0 143)) (bl 143 (a_getf zG0 zT0 10 6 146))))) (bn 155 (bn 150 (bn 149 (bl 146 (a_icmp 5 222 149)) (bl 149 (a_aload 0 150))) (bn 152 (bl 150 (a_iload 4 152)) (bl 152 (a_invV zG0 zprot (true, false) zc_72 (zbd 72) (22, 0, 0) 10 2 155)))) (bn 161 (bn 158 (bl 155 (a_if 1 161 158)) (bl 158 (a_goto 222))) (bn 162 (bl 161 (a_aload 0 162)) (bl 162 (a_aload 1 163))))))) (bn 195 (bn 178 (bn 169 (bn 165 (bl 163 (a_iload 4 165)) (bn 168 (bl 165 (a_invV zG0 zprot (true, false) zc_70 (zbd 70) (22, 0, 0) 10 3 168)) (bl 168 (a_aload 0 169)))) (bn 174 (bn 171 (bl 169 (a_iload 4 171)) (bl 171 (a_invV zG0 zprot (true, false) zc_69 (zbd 69) (22, 0, 0) 10 2 174))) (bn 175 (bl 174 (a_aload 0 175)) (bl 175 (a_getf zG0 zT0 10 4 178))))) (bn 187 (bn 182 (bn 179 (bl 178 (a_aload 0 179)) (bl 179 (a_getf zG0 zT0 10 5 182))) (bn 185 (bl 182 (a_invV zG0 zprot (true, false) zc_28 (zbd 28) (22, 0, 0) 3 2 185)) (bl 185 (a_iload 5 187)))) (bn 191 (bn 188 (bl 187 (a_aload 0 188)) (bl 188 (a_getf zG0 zT0 10 4 191))) (bn 194 (bl 191 (a_getf zG0 zT0 3 6 194)) (bl 194 (a_bin fadd 195)))))) (bn 209 (bn 202 (bn 196 (bl 195 (a_aload 0 196)) (bn 199 (bl 196 (a_getf zG0 zT0 10 6 199)) (bl 199 (a_icmp 5 222 202)))) (bn 205 (bn 203 (bl 202 (a_aload 0 203)) (bl 203 (a_iload 5 205))) (bn 206 (bl 205 (a_aload 0 206)) (bl 206 (a_getf zG0 zT0 10 4 209))))) (bn 217 (bn 213 (bn 212 (bl 209 (a_getf zG0 zT0 3 6 212)) (bl 212 (a_bin fadd 213))) (bn 216 (bl 213 (a_puti zG0 zT0 zprot 10 6 0 216)) (bl 216 (a_aload 0 217)))) (bn 222 (bn 219 (bl 217 (a_iload 4 219)) (bl 219 (a_puti zG0 zT0 zprot 10 7 0 222))) (bn 225 (bl 222 (a_iinc 4 1 225)) (bl 225 (a_goto 82))))))))
set_option maxRecDepth 100000 in
set_option maxHeartbeats 4000000 in
theorem zTo_71 {pre : zPre} {post : zPost} (H : zTieC pre post) {d : Nat × Nat × Nat} (hd : zLe (22, 0, 0) d) : aTr zG0 zT0 zInv (true, false) PZ zbd pre post d prog_12_method_2_code "CapitalCase$TwoDays" zTr_71 := (xB_n (xB_n (xB_n (xB_n (xB_n (xB_n (xB_l ⟨_, zs_aload_n em67_0, as_aload⟩) (xB_n (xB_l ⟨_, zs_aload_n em67_1, as_aload⟩) (xB_l ⟨_, zs_getf (T := TX10) (M := 9) (ci := 10) (j := 0) em67_2 rfl inX10 (by decide) wd_505 ((congrFun xo_11 22).trans rfl), as_getf zTie⟩))) (xB_n (xB_n (xB_l ⟨_, zs_getf (T := TX6) (M := 15) (ci := 6) (j := 1) em67_5 rfl inX6 (by decide) wd_168 ((congrFun xo_11 46).trans rfl), as_getf zTie⟩) (xB_l ⟨_, zs_invV (T := TX8) em67_8 zl_62 rfl wd_1099 wd_936 wd_937 ((congrFun xo_11 52).trans rfl) xm_58, ag_invV H zh_62 hd (by decide)⟩)) (xB_n (xB_l ⟨_, zs_istore_n em67_11, as_istore⟩) (xB_l ⟨_, zs_aload_n em67_12, as_aload⟩)))) (xB_n (xB_n (xB_l ⟨_, zs_getf (T := TX10) (M := 9) (ci := 10) (j := 3) em67_13 rfl inX10 (by decide) wd_508 ((congrFun xo_11 34).trans rfl), as_getf zTie⟩) (xB_n (xB_l ⟨_, zs_aload_n em67_16, as_aload⟩) (xB_l ⟨_, zs_iload_n em67_17, as_iload⟩))) (xB_n (xB_n (xB_l ⟨_, zs_invV (T := TX3) em67_18 zl_26 rfl wd_1100 wd_944 wd_945 ((congrFun xo_11 56).trans rfl) xm_26, ag_invV H zh_26 hd (by decide)⟩) (xB_l ⟨_, zs_iconst (v := 0) em67_21 (by decide +kernel), as_const (by decide +kernel)⟩)) (xB_n (xB_l ⟨_, zs_istore_n em67_22, as_istore⟩) (xB_l ⟨_, zs_iload_n em67_23, as_iload⟩))))) (xB_n (xB_n (xB_n (xB_l ⟨_, zs_aload_n em67_24, as_aload⟩) (xB_n (xB_l ⟨_, zs_getf (T := TX10) (M := 9) (ci := 10) (j := 0) em67_25 rfl inX10 (by decide) wd_505 ((congrFun xo_11 22).trans rfl), as_getf zTie⟩) (xB_l ⟨_, zs_getf (T := TX6) (M := 15) (ci := 6) (j := 1) em67_28 rfl inX6 (by decide) wd_168 ((congrFun xo_11 46).trans rfl), as_getf zTie⟩))) (xB_n (xB_n (xB_l ⟨_, zs_icmpge em67_31 (t := 60) (by decide), as_icmp⟩) (xB_l ⟨_, zs_aload_n em67_34, as_aload⟩)) (xB_n (xB_l ⟨_, zs_getf (T := TX10) (M := 9) (ci := 10) (j := 8) em67_35 rfl inX10 (by decide) wd_515 ((congrFun xo_11 18).trans rfl), as_getf zTie⟩) (xB_l ⟨_, zs_iload_n em67_38, as_iload⟩)))) (xB_n (xB_n (xB_n (xB_l ⟨_, zs_aload_n em67_39, as_aload⟩) (xB_l ⟨_, zs_getf (T := TX10) (M := 9) (ci := 10) (j := 1) em67_40 rfl inX10 (by decide) wd_506 ((congrFun xo_11 26).trans rfl), as_getf zTie⟩)) (xB_n (xB_l ⟨_, zs_iload_n em67_43, as_iload⟩) (xB_l ⟨_, zs_aload_n em67_44, as_aload⟩))) (xB_n (xB_n (xB_l ⟨_, zs_getf (T := TX8) (M := 10) (ci := 8) (j := 7) em67_45 rfl inX8 (by decide) wd_345 ((congrFun xo_11 60).trans rfl), as_getf zTie⟩) (xB_l ⟨_, zs_iconst (v := 1) em67_48 (by decide +kernel), as_const (by decide +kernel)⟩)) (xB_n (xB_l ⟨_, zs_iadd em67_49, as_bin fadd_ok⟩) (xB_l ⟨_, zs_invV (T := TX1) em67_50 zl_6 rfl wd_1101 wd_903 wd_904 ((congrFun xo_11 63).trans rfl) xm_6, ag_invV H zh_6 hd (by decide)⟩)))))) (xB_n (xB_n (xB_n (xB_n (xB_l ⟨_, zs_iast zInj0 em67_53, as_iast zTie⟩) (xB_n (xB_l ⟨_, zs_iinc (k := 1) em67_54 (by decide +kernel), as_iinc (by decide +kernel)⟩) (xB_l ⟨_, zs_goto em67_57 (t := 23) (by decide), as_goto⟩))) (xB_n (xB_n (xB_l ⟨_, zs_aload_n em67_60, as_aload⟩) (xB_l ⟨_, zs_getf (T := TX10) (M := 9) (ci := 10) (j := 2) em67_61 rfl inX10 (by decide) wd_507 ((congrFun xo_11 30).trans rfl), as_getf zTie⟩)) (xB_n (xB_l ⟨_, zs_aload_n em67_64, as_aload⟩) (xB_l ⟨_, zs_invV (T := TX4) em67_65 zl_35 rfl wd_1102 wd_1014 wd_1015 ((congrFun xo_11 69).trans rfl) xm_34, ag_invV H zh_35 hd (by decide)⟩)))) (xB_n (xB_n (xB_n (xB_l ⟨_, zs_istore_n em67_68, as_istore⟩) (xB_l ⟨_, zs_aload_n em67_69, as_aload⟩)) (xB_n (xB_l ⟨_, zs_iconst (v := (-1)) em67_70 (by decide +kernel), as_const (by decide +kernel)⟩) (xB_l ⟨_, zs_puti zInj0 (T := TX10) (M := 9) (ty := tyX10) (ci := 10) (j := 6) (kd := 0) em67_71 rfl inX10 tyX10_ok nmX10 (by decide) wd_511 (Or.inl ⟨rfl, rfl⟩) rfl ((congrFun xo_11 75).trans rfl), ag_puti0⟩))) (xB_n (xB_n (xB_l ⟨_, zs_aload_n em67_74, as_aload⟩) (xB_l ⟨_, zs_iconst (v := 0) em67_75 (by decide +kernel), as_const (by decide +kernel)⟩)) (xB_n (xB_l ⟨_, zs_puti zInj0 (T := TX10) (M := 9) (ty := tyX10) (ci := 10) (j := 7) (kd := 0) em67_76 rfl inX10 tyX10_ok nmX10 (by decide) wd_513 (Or.inl ⟨rfl, rfl⟩) rfl ((congrFun xo_11 78).trans rfl), ag_puti0⟩) (xB_l ⟨_, zs_iconst (v := 0) em67_79 (by decide +kernel), as_const (by decide +kernel)⟩))))) (xB_n (xB_n (xB_n (xB_l ⟨_, zs_istore em67_80, as_istore⟩) (xB_n (xB_l ⟨_, zs_iload em67_82, as_iload⟩) (xB_l ⟨_, zs_iconst (v := 1) em67_84 (by decide +kernel), as_const (by decide +kernel)⟩))) (xB_n (xB_n (xB_l ⟨_, zs_aload_n em67_85, as_aload⟩) (xB_l ⟨_, zs_getf (T := TX10) (M := 9) (ci := 10) (j := 0) em67_86 rfl inX10 (by decide) wd_505 ((congrFun xo_11 22).trans rfl), as_getf zTie⟩)) (xB_n (xB_l ⟨_, zs_getf (T := TX6) (M := 15) (ci := 6) (j := 1) em67_89 rfl inX6 (by decide) wd_168 ((congrFun xo_11 46).trans rfl), as_getf zTie⟩) (xB_l ⟨_, zs_ishl em67_92, as_bin fshl_ok⟩)))) (xB_n (xB_n (xB_n (xB_l ⟨_, zs_icmpge em67_93 (t := 228) (by decide), as_icmp⟩) (xB_l ⟨_, zs_iload em67_96, as_iload⟩)) (xB_n (xB_l ⟨_, zs_iload_n em67_98, as_iload⟩) (xB_l ⟨_, zs_iconst (v := (-1)) em67_99 (by decide +kernel), as_const (by decide +kernel)⟩))) (xB_n (xB_n (xB_l ⟨_, zs_ixor em67_100, as_bin fany_ok⟩) (xB_l ⟨_, zs_iand em67_101, as_bin fand_ok⟩)) (xB_n (xB_l ⟨_, zs_ifeq em67_102 (t := 108) (by decide), as_if⟩) (xB_l ⟨_, zs_goto em67_105 (t := 222) (by decide), as_goto⟩))))))) (xB_n (xB_n (xB_n (xB_n (xB_n (xB_l ⟨_, zs_iload_n em67_108, as_iload⟩) (xB_n (xB_l ⟨_, zs_aload_n em67_109, as_aload⟩) (xB_l ⟨_, zs_aload_n em67_110, as_aload⟩))) (xB_n (xB_n (xB_l ⟨_, zs_getf (T := TX10) (M := 9) (ci := 10) (j := 3) em67_111 rfl inX10 (by decide) wd_508 ((congrFun xo_11 34).trans rfl), as_getf zTie⟩) (xB_l ⟨_, zs_getf (T := TX3) (M := 12) (ci := 3) (j := 4) em67_114 rfl inX3 (by decide) wd_458 ((congrFun xo_11 81).trans rfl), as_getf zTie⟩)) (xB_n (xB_l ⟨_, zs_iload em67_117, as_iload⟩) (xB_l ⟨_, zs_invV (T := TX10) em67_119 zl_73 rfl wd_1103 wd_1105 wd_34 ((congrFun xo_11 83).trans rfl) xm_69, ag_invV H zh_73 hd (by decide)⟩)))) (xB_n (xB_n (xB_n (xB_l ⟨_, zs_iadd em67_122, as_bin fadd_ok⟩) (xB_l ⟨_, zs_istore em67_123, as_istore⟩)) (xB_n (xB_l ⟨_, zs_iload em67_125, as_iload⟩) (xB_l ⟨_, zs_aload_n em67_127, as_aload⟩))) (xB_n (xB_n (xB_l ⟨_, zs_aload_n em67_128, as_aload⟩) (xB_l ⟨_, zs_getf (T := TX10) (M := 9) (ci := 10) (j := 8) em67_129 rfl inX10 (by decide) wd_515 ((congrFun xo_11 18).trans rfl), as_getf zTie⟩)) (xB_n (xB_l ⟨_, zs_iload_n em67_132, as_iload⟩) (xB_l ⟨_, zs_iload em67_133, as_iload⟩))))) (xB_n (xB_n (xB_n (xB_l ⟨_, zs_iconst (v := (-1)) em67_135 (by decide +kernel), as_const (by decide +kernel)⟩) (xB_n (xB_l ⟨_, zs_ixor em67_136, as_bin fany_ok⟩) (xB_l ⟨_, zs_iand em67_137, as_bin fand_ok⟩))) (xB_n (xB_n (xB_l ⟨_, zs_invV (T := TX10) em67_138 zl_74 rfl wd_1103 wd_1105 wd_34 ((congrFun xo_11 83).trans rfl) xm_69, ag_invV H zh_74 hd (by decide)⟩) (xB_l ⟨_, zs_iadd em67_141, as_bin fadd_ok⟩)) (xB_n (xB_l ⟨_, zs_aload_n em67_142, as_aload⟩) (xB_l ⟨_, zs_getf (T := TX10) (M := 9) (ci := 10) (j := 6) em67_143 rfl inX10 (by decide) wd_511 ((congrFun xo_11 75).trans rfl), as_getf zTie⟩)))) (xB_n (xB_n (xB_n (xB_l ⟨_, zs_icmple em67_146 (t := 222) (by decide), as_icmp⟩) (xB_l ⟨_, zs_aload_n em67_149, as_aload⟩)) (xB_n (xB_l ⟨_, zs_iload em67_150, as_iload⟩) (xB_l ⟨_, zs_invV (T := TX10) em67_152 zl_72 rfl wd_1107 wd_1109 wd_35 ((congrFun xo_11 87).trans rfl) xm_68, ag_invV H zh_72 hd (by decide)⟩))) (xB_n (xB_n (xB_l ⟨_, zs_ifne em67_155 (t := 161) (by decide), as_if⟩) (xB_l ⟨_, zs_goto em67_158 (t := 222) (by decide), as_goto⟩)) (xB_n (xB_l ⟨_, zs_aload_n em67_161, as_aload⟩) (xB_l ⟨_, zs_aload_n em67_162, as_aload⟩)))))) (xB_n (xB_n (xB_n (xB_n (xB_l ⟨_, zs_iload em67_163, as_iload⟩) (xB_n (xB_l ⟨_, zs_invV (T := TX10) em67_165 zl_70 rfl wd_1117 wd_1119 wd_37 ((congrFun xo_11 91).trans rfl) xm_66, ag_invV H zh_70 hd (by decide)⟩) (xB_l ⟨_, zs_aload_n em67_168, as_aload⟩))) (xB_n (xB_n (xB_l ⟨_, zs_iload em67_169, as_iload⟩) (xB_l ⟨_, zs_invV (T := TX10) em67_171 zl_69 rfl wd_1112 wd_1114 wd_36 ((congrFun xo_11 94).trans rfl) xm_65, ag_invV H zh_69 hd (by decide)⟩)) (xB_n (xB_l ⟨_, zs_aload_n em67_174, as_aload⟩) (xB_l ⟨_, zs_getf (T := TX10) (M := 9) (ci := 10) (j := 4) em67_175 rfl inX10 (by decide) wd_509 ((congrFun xo_11 43).trans rfl), as_getf zTie⟩)))) (xB_n (xB_n (xB_n (xB_l ⟨_, zs_aload_n em67_178, as_aload⟩) (xB_l ⟨_, zs_getf (T := TX10) (M := 9) (ci := 10) (j := 5) em67_179 rfl inX10 (by decide) wd_510 ((congrFun xo_11 12).trans rfl), as_getf zTie⟩)) (xB_n (xB_l ⟨_, zs_invV (T := TX3) em67_182 zl_28 rfl wd_1125 wd_1061 wd_1062 ((congrFun xo_11 98).trans rfl) xm_28, ag_invV H zh_28 hd (by decide)⟩) (xB_l ⟨_, zs_iload em67_185, as_iload⟩))) (xB_n (xB_n (xB_l ⟨_, zs_aload_n em67_187, as_aload⟩) (xB_l ⟨_, zs_getf (T := TX10) (M := 9) (ci := 10) (j := 4) em67_188 rfl inX10 (by decide) wd_509 ((congrFun xo_11 43).trans rfl), as_getf zTie⟩)) (xB_n (xB_l ⟨_, zs_getf (T := TX3) (M := 12) (ci := 3) (j := 6) em67_191 rfl inX3 (by decide) wd_462 ((congrFun xo_11 102).trans rfl), as_getf zTie⟩) (xB_l ⟨_, zs_iadd em67_194, as_bin fadd_ok⟩))))) (xB_n (xB_n (xB_n (xB_l ⟨_, zs_aload_n em67_195, as_aload⟩) (xB_n (xB_l ⟨_, zs_getf (T := TX10) (M := 9) (ci := 10) (j := 6) em67_196 rfl inX10 (by decide) wd_511 ((congrFun xo_11 75).trans rfl), as_getf zTie⟩) (xB_l ⟨_, zs_icmple em67_199 (t := 222) (by decide), as_icmp⟩))) (xB_n (xB_n (xB_l ⟨_, zs_aload_n em67_202, as_aload⟩) (xB_l ⟨_, zs_iload em67_203, as_iload⟩)) (xB_n (xB_l ⟨_, zs_aload_n em67_205, as_aload⟩) (xB_l ⟨_, zs_getf (T := TX10) (M := 9) (ci := 10) (j := 4) em67_206 rfl inX10 (by decide) wd_509 ((congrFun xo_11 43).trans rfl), as_getf zTie⟩)))) (xB_n (xB_n (xB_n (xB_l ⟨_, zs_getf (T := TX3) (M := 12) (ci := 3) (j := 6) em67_209 rfl inX3 (by decide) wd_462 ((congrFun xo_11 102).trans rfl), as_getf zTie⟩) (xB_l ⟨_, zs_iadd em67_212, as_bin fadd_ok⟩)) (xB_n (xB_l ⟨_, zs_puti zInj0 (T := TX10) (M := 9) (ty := tyX10) (ci := 10) (j := 6) (kd := 0) em67_213 rfl inX10 tyX10_ok nmX10 (by decide) wd_511 (Or.inl ⟨rfl, rfl⟩) rfl ((congrFun xo_11 75).trans rfl), ag_puti0⟩) (xB_l ⟨_, zs_aload_n em67_216, as_aload⟩))) (xB_n (xB_n (xB_l ⟨_, zs_iload em67_217, as_iload⟩) (xB_l ⟨_, zs_puti zInj0 (T := TX10) (M := 9) (ty := tyX10) (ci := 10) (j := 7) (kd := 0) em67_219 rfl inX10 tyX10_ok nmX10 (by decide) wd_513 (Or.inl ⟨rfl, rfl⟩) rfl ((congrFun xo_11 78).trans rfl), ag_puti0⟩)) (xB_n (xB_l ⟨_, zs_iinc (k := 1) em67_222 (by decide +kernel), as_iinc (by decide +kernel)⟩) (xB_l ⟨_, zs_goto em67_225 (t := 82) (by decide), as_goto⟩))))))))
set_option maxRecDepth 100000 in
set_option maxHeartbeats 4000000 in
theorem zM_71 : zOKa 71 zc_71 := z_auto (cuts := [(23, ([(0, 0), (0, 408), (0, 5), (0, 7), (0, 127), (0, 7)], [], [some (.inr (.inl (0, 59))), some (.inr (.inl (1, 1000))), some (.inl (4, 0)), some (.inl (5, 0)), none, none], [], [(4, 1, 0), (5, 2, 0), (6, 3, 0)], (0, 0)), [(0, 2), (0, 3)], 136, [0, 0, 0, 0, 0, (-1)]), (82, ([(0, 0), (0, 408), (0, 5), (0, 7), (0, 127), ((-2147483648), 2147483647), (0, 128)], [], [some (.inr (.inl (0, 59))), some (.inr (.inl (1, 1000))), some (.inl (4, 0)), some (.inl (5, 0)), some (.inl (6, 0)), none], [], [(4, 1, 0), (5, 2, 0), (6, 3, 0)], (0, 0)), [(0, 2), (0, 3), (0, 4)], 128, [0, 0, 0, 0, 0, 0, (-1)])]) (rets := [(228, 3)]) (fuel := 1000) rfl rfl (by decide) (xrt_ok (xR_c (Or.inr (Or.inr (Or.inl ⟨rfl, em67_228, rfl⟩))) (xR_n))) (fun _ _ H _ hd => zTo_71 H hd) (by decide +kernel)
