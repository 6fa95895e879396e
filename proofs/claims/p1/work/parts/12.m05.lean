theorem d89_0 : decode prog_14_method_9_code 0 = .ok (.iload_n 2, 1) := by decide +kernel
theorem d89_1 : decode prog_14_method_9_code 1 = .ok (.ifCond .ne 7, 3) := by decide +kernel
theorem d89_4 : decode prog_14_method_9_code 4 = .ok (.lload_n 0, 1) := by decide +kernel
theorem d89_5 : decode prog_14_method_9_code 5 = .ok (.goto 16, 3) := by decide +kernel
theorem d89_8 : decode prog_14_method_9_code 8 = .ok (.ldc2_w 172, 3) := by decide +kernel
theorem d89_11 : decode prog_14_method_9_code 11 = .ok (.lload_n 0, 1) := by decide +kernel
theorem d89_12 : decode prog_14_method_9_code 12 = .ok (.lmul, 1) := by decide +kernel
theorem d89_13 : decode prog_14_method_9_code 13 = .ok (.iload_n 2, 1) := by decide +kernel
theorem d89_14 : decode prog_14_method_9_code 14 = .ok (.bipush 97, 2) := by decide +kernel
theorem d89_16 : decode prog_14_method_9_code 16 = .ok (.isub, 1) := by decide +kernel
theorem d89_17 : decode prog_14_method_9_code 17 = .ok (.iconst 1, 1) := by decide +kernel
theorem d89_18 : decode prog_14_method_9_code 18 = .ok (.iadd, 1) := by decide +kernel
theorem d89_19 : decode prog_14_method_9_code 19 = .ok (.i2l, 1) := by decide +kernel
theorem d89_20 : decode prog_14_method_9_code 20 = .ok (.ladd, 1) := by decide +kernel
theorem d89_21 : decode prog_14_method_9_code 21 = .ok (.lreturn, 1) := by decide +kernel
noncomputable def T_89 : Nat → Option xF := bn 13 (bn 5 (bn 1 (bl 0 (y_iload 2 1)) (bn 4 (bl 1 (y_if yc1 8 4)) (bl 4 (x_lload 0 5)))) (bn 11 (bn 8 (bl 5 (x_goto 21)) (bl 8 (x_lconst 11))) (bn 12 (bl 11 (x_lload 0 12)) (bl 12 (x_lbin 13))))) (bn 17 (bn 14 (bl 13 (y_iload 2 14)) (bn 16 (bl 14 (x_const 2147483745 16)) (bl 16 (y_bin ysub 17)))) (bn 19 (bn 18 (bl 17 (x_const 2147483649 18)) (bl 18 (y_bin yadd 19))) (bn 20 (bl 19 (x_i2l 20)) (bl 20 (x_lbin 21)))))
set_option maxRecDepth 100000 in
set_option maxHeartbeats 4000000 in
theorem T_89_ok (G : State → Nat → Nat → Prop) : xTree PX G prog_14_method_9_code "CapitalCaseModel" false T_89 := (xT_n (xT_n (xT_n (xT_l (yS (y_iload_eq _ _) (s_iload_n d89_0))) (xT_n (xT_l (yS (y_if_eq yc1_eq _ _) (s_ifne d89_1 (by decide +kernel)))) (xT_l (s_lload_n d89_4)))) (xT_n (xT_n (xT_l (s_goto d89_5 (by decide +kernel))) (xT_l (s_ldc2 d89_8 wd_1273))) (xT_n (xT_l (s_lload_n d89_11)) (xT_l (s_lmul d89_12))))) (xT_n (xT_n (xT_l (yS (y_iload_eq _ _) (s_iload_n d89_13))) (xT_n (xT_l (s_bipush d89_14 (by decide +kernel))) (xT_l (yS (y_bin_eq _ _) (s_isub d89_16))))) (xT_n (xT_n (xT_l (s_iconst d89_17 (by decide +kernel))) (xT_l (yS (y_bin_eq _ _) (s_iadd d89_18)))) (xT_n (xT_l (s_i2l d89_19)) (xT_l (s_ladd d89_20))))))
set_option maxRecDepth 100000 in
set_option maxHeartbeats 4000000 in
theorem M_89 : xMeth PX 89 (T_89, 3, [(21, 4)]) := ⟨⟨"CapitalCaseModel", "appends", "(JI)J"⟩, prog_14_method_9_code, (some .long), rfl, by decide, fun G => T_89_ok G, xrt_ok (xR_c (Or.inr (Or.inr (Or.inr ⟨rfl, d89_21, rfl⟩))) (xR_n))⟩
theorem d90_0 : decode prog_14_method_51_code 0 = .ok (.aload_n 0, 1) := by decide +kernel
theorem d90_1 : decode prog_14_method_51_code 1 = .ok (.iconst 4, 1) := by decide +kernel
theorem d90_2 : decode prog_14_method_51_code 2 = .ok (.aload_n 0, 1) := by decide +kernel
theorem d90_3 : decode prog_14_method_51_code 3 = .ok (.getfield 116, 3) := by decide +kernel
theorem d90_6 : decode prog_14_method_51_code 6 = .ok (.sipush 386, 3) := by decide +kernel
theorem d90_9 : decode prog_14_method_51_code 9 = .ok (.iaload, 1) := by decide +kernel
theorem d90_10 : decode prog_14_method_51_code 10 = .ok (.imul, 1) := by decide +kernel
theorem d90_11 : decode prog_14_method_51_code 11 = .ok (.bipush 100, 2) := by decide +kernel
theorem d90_13 : decode prog_14_method_51_code 13 = .ok (.invokevirtual 341, 3) := by decide +kernel
theorem d90_16 : decode prog_14_method_51_code 16 = .ok (.aload_n 0, 1) := by decide +kernel
theorem d90_17 : decode prog_14_method_51_code 17 = .ok (.getfield 67, 3) := by decide +kernel
theorem d90_20 : decode prog_14_method_51_code 20 = .ok (.aload_n 0, 1) := by decide +kernel
theorem d90_21 : decode prog_14_method_51_code 21 = .ok (.getfield 230, 3) := by decide +kernel
theorem d90_24 : decode prog_14_method_51_code 24 = .ok (.iaload, 1) := by decide +kernel
theorem d90_25 : decode prog_14_method_51_code 25 = .ok (.if_icmp .ge 7, 3) := by decide +kernel
theorem d90_32 : decode prog_14_method_51_code 32 = .ok (.iconst 0, 1) := by decide +kernel
theorem d90_33 : decode prog_14_method_51_code 33 = .ok (.ireturn, 1) := by decide +kernel
noncomputable def T_90 : Nat → Option xF := bn 13 (bn 6 (bn 2 (bn 1 (bl 0 (y_aload 0 1)) (bl 1 (x_const 2147483652 2))) (bn 3 (bl 2 (y_aload 0 3)) (bl 3 (y_getf 12 0 6)))) (bn 10 (bn 9 (bl 6 (x_const 2147484034 9)) (bl 9 (y_iald 10))) (bn 11 (bl 10 (y_bin (xfg (fun x y => x * y)) 11)) (bl 11 (x_const 2147483748 13))))) (bn 21 (bn 17 (bn 16 (bl 13 (y_invV 12 126 3 16)) (bl 16 (y_aload 0 17))) (bn 20 (bl 17 (y_getf 12 9 20)) (bl 20 (y_aload 0 21)))) (bn 25 (bn 24 (bl 21 (y_getf 12 2 24)) (bl 24 (y_iald 25))) (bn 32 (bl 25 (y_icmp yc3 32 28)) (bl 32 (x_const 2147483648 33)))))
set_option maxRecDepth 100000 in
set_option maxHeartbeats 4000000 in
theorem T_90_ok (G : State → Nat → Nat → Prop) : xTree PX G prog_14_method_51_code "CapitalCaseModel" false T_90 := (xT_n (xT_n (xT_n (xT_n (xT_l (yS (y_aload_eq _ _) (s_aload_n d90_0))) (xT_l (s_iconst d90_1 (by decide +kernel)))) (xT_n (xT_l (yS (y_aload_eq _ _) (s_aload_n d90_2))) (xT_l (yS (y_getf_eq _ _ _) (s_getf (T := TX12) (N := 70) d90_3 rfl inX12 (by decide) wd_1332))))) (xT_n (xT_n (xT_l (s_sipush d90_6 (by decide +kernel))) (xT_l (yS (y_iald_eq _) (s_iald d90_9)))) (xT_n (xT_l (yS (y_bin_eq _ _) (s_imul d90_10))) (xT_l (s_bipush d90_11 (by decide +kernel)))))) (xT_n (xT_n (xT_n (xT_l (yS (y_invV_eq _ _ _ _) (s_invV (T := TX12) d90_13 cal_126 rfl wd_1770 wd_1772 wd_97))) (xT_l (yS (y_aload_eq _ _) (s_aload_n d90_16)))) (xT_n (xT_l (yS (y_getf_eq _ _ _) (s_getf (T := TX12) (N := 70) d90_17 rfl inX12 (by decide) wd_1311))) (xT_l (yS (y_aload_eq _ _) (s_aload_n d90_20))))) (xT_n (xT_n (xT_l (yS (y_getf_eq _ _ _) (s_getf (T := TX12) (N := 70) d90_21 rfl inX12 (by decide) wd_1299))) (xT_l (yS (y_iald_eq _) (s_iald d90_24)))) (xT_n (xT_l (yS (y_icmp_eq yc3_eq _ _) (s_icmpge d90_25 (by decide +kernel)))) (xT_l (s_iconst d90_32 (by decide +kernel)))))))
set_option maxRecDepth 100000 in
set_option maxHeartbeats 4000000 in
theorem M_90 : xMeth PX 90 (T_90, 1, [(33, 2)]) := ⟨⟨"CapitalCaseModel", "areThieves", "()Z"⟩, prog_14_method_51_code, (some .boolean), rfl, by decide, fun G => T_90_ok G, xrt_ok (xR_c (Or.inr (Or.inl ⟨rfl, d90_33, rfl⟩)) (xR_n))⟩
theorem d91_0 : decode prog_14_method_79_code 0 = .ok (.aload_n 0, 1) := by decide +kernel
theorem d91_1 : decode prog_14_method_79_code 1 = .ok (.iload_n 1, 1) := by decide +kernel
theorem d91_2 : decode prog_14_method_79_code 2 = .ok (.invokevirtual 405, 3) := by decide +kernel
theorem d91_5 : decode prog_14_method_79_code 5 = .ok (.ifCond .eq 27, 3) := by decide +kernel
theorem d91_32 : decode prog_14_method_79_code 32 = .ok (.iconst 0, 1) := by decide +kernel
theorem d91_33 : decode prog_14_method_79_code 33 = .ok (.ireturn, 1) := by decide +kernel
noncomputable def T_91 : Nat → Option xF := bn 2 (bn 1 (bl 0 (y_aload 0 1)) (bl 1 (y_iload 1 2))) (bn 5 (bl 2 (y_invV 12 117 2 5)) (bn 32 (bl 5 (y_if yc0 32 8)) (bl 32 (x_const 2147483648 33))))
set_option maxRecDepth 100000 in
set_option maxHeartbeats 4000000 in
theorem T_91_ok (G : State → Nat → Nat → Prop) : xTree PX G prog_14_method_79_code "CapitalCaseModel" false T_91 := (xT_n (xT_n (xT_l (yS (y_aload_eq _ _) (s_aload_n d91_0))) (xT_l (yS (y_iload_eq _ _) (s_iload_n d91_1)))) (xT_n (xT_l (yS (y_invV_eq _ _ _ _) (s_invV (T := TX12) d91_2 cal_117 rfl wd_1625 wd_1627 wd_72))) (xT_n (xT_l (yS (y_if_eq yc0_eq _ _) (s_ifeq d91_5 (by decide +kernel)))) (xT_l (s_iconst d91_32 (by decide +kernel))))))
set_option maxRecDepth 100000 in
set_option maxHeartbeats 4000000 in
theorem M_91 : xMeth PX 91 (T_91, 4, [(33, 2)]) := ⟨⟨"CapitalCaseModel", "areTwo", "(III)Z"⟩, prog_14_method_79_code, (some .boolean), rfl, by decide, fun G => T_91_ok G, xrt_ok (xR_c (Or.inr (Or.inl ⟨rfl, d91_33, rfl⟩)) (xR_n))⟩
theorem d92_0 : decode prog_14_method_110_code 0 = .ok (.iload_n 1, 1) := by decide +kernel
theorem d92_1 : decode prog_14_method_110_code 1 = .ok (.iconst 0, 1) := by decide +kernel
theorem d92_2 : decode prog_14_method_110_code 2 = .ok (.aload_n 0, 1) := by decide +kernel
theorem d92_3 : decode prog_14_method_110_code 3 = .ok (.getfield 251, 3) := by decide +kernel
theorem d92_6 : decode prog_14_method_110_code 6 = .ok (.invokestatic 324, 3) := by decide +kernel
theorem d92_9 : decode prog_14_method_110_code 9 = .ok (.ifCond .eq 14, 3) := by decide +kernel
theorem d92_12 : decode prog_14_method_110_code 12 = .ok (.iload_n 2, 1) := by decide +kernel
theorem d92_13 : decode prog_14_method_110_code 13 = .ok (.iconst 0, 1) := by decide +kernel
theorem d92_14 : decode prog_14_method_110_code 14 = .ok (.sipush 999, 3) := by decide +kernel
theorem d92_17 : decode prog_14_method_110_code 17 = .ok (.invokestatic 324, 3) := by decide +kernel
theorem d92_20 : decode prog_14_method_110_code 20 = .ok (.ifCond .ne 5, 3) := by decide +kernel
theorem d92_23 : decode prog_14_method_110_code 23 = .ok (.iconst (-1), 1) := by decide +kernel
theorem d92_24 : decode prog_14_method_110_code 24 = .ok (.ireturn, 1) := by decide +kernel
theorem d92_25 : decode prog_14_method_110_code 25 = .ok (.aload_n 0, 1) := by decide +kernel
theorem d92_26 : decode prog_14_method_110_code 26 = .ok (.iload_n 1, 1) := by decide +kernel
theorem d92_27 : decode prog_14_method_110_code 27 = .ok (.invokevirtual 467, 3) := by decide +kernel
theorem d92_30 : decode prog_14_method_110_code 30 = .ok (.istore_n 3, 1) := by decide +kernel
theorem d92_31 : decode prog_14_method_110_code 31 = .ok (.bipush (-2), 2) := by decide +kernel
theorem d92_33 : decode prog_14_method_110_code 33 = .ok (.istore 4, 2) := by decide +kernel
theorem d92_35 : decode prog_14_method_110_code 35 = .ok (.iconst 0, 1) := by decide +kernel
theorem d92_36 : decode prog_14_method_110_code 36 = .ok (.istore 5, 2) := by decide +kernel
theorem d92_38 : decode prog_14_method_110_code 38 = .ok (.iconst 0, 1) := by decide +kernel
theorem d92_39 : decode prog_14_method_110_code 39 = .ok (.istore 6, 2) := by decide +kernel
theorem d92_41 : decode prog_14_method_110_code 41 = .ok (.iload 6, 2) := by decide +kernel
theorem d92_43 : decode prog_14_method_110_code 43 = .ok (.bipush 8, 2) := by decide +kernel
theorem d92_45 : decode prog_14_method_110_code 45 = .ok (.if_icmp .ge 121, 3) := by decide +kernel
theorem d92_48 : decode prog_14_method_110_code 48 = .ok (.iload_n 3, 1) := by decide +kernel
theorem d92_49 : decode prog_14_method_110_code 49 = .ok (.ifCond .eq 117, 3) := by decide +kernel
theorem d92_166 : decode prog_14_method_110_code 166 = .ok (.iload 4, 2) := by decide +kernel
theorem d92_168 : decode prog_14_method_110_code 168 = .ok (.ireturn, 1) := by decide +kernel
noncomputable def T_92 : Nat → Option xF := bn 27 (bn 13 (bn 3 (bn 1 (bl 0 (y_iload 1 1)) (bn 2 (bl 1 (x_const 2147483648 2)) (bl 2 (y_aload 0 3)))) (bn 9 (bn 6 (bl 3 (y_getf 12 64 6)) (bl 6 (y_inv 115 3 9))) (bn 12 (bl 9 (y_if yc0 23 12)) (bl 12 (y_iload 2 13))))) (bn 20 (bn 14 (bl 13 (x_const 2147483648 14)) (bn 17 (bl 14 (x_const 2147484647 17)) (bl 17 (y_inv 115 3 20)))) (bn 25 (bn 23 (bl 20 (y_if yc1 25 23)) (bl 23 (x_const 2147483647 24))) (bn 26 (bl 25 (y_aload 0 26)) (bl 26 (y_iload 1 27)))))) (bn 39 (bn 33 (bn 30 (bl 27 (y_invV 12 150 2 30)) (bn 31 (bl 30 (y_istore 3 31)) (bl 31 (x_const 2147483646 33)))) (bn 36 (bn 35 (bl 33 (y_istore 4 35)) (bl 35 (x_const 2147483648 36))) (bn 38 (bl 36 (y_istore 5 38)) (bl 38 (x_const 2147483648 39))))) (bn 45 (bn 41 (bl 39 (y_istore 6 41)) (bn 43 (bl 41 (y_iload 6 43)) (bl 43 (x_const 2147483656 45)))) (bn 49 (bn 48 (bl 45 (y_icmp yc3 166 48)) (bl 48 (y_iload 3 49))) (bn 166 (bl 49 (y_if yc0 166 52)) (bl 166 (y_iload 4 168))))))
set_option maxRecDepth 100000 in
set_option maxHeartbeats 4000000 in
theorem T_92_ok (G : State → Nat → Nat → Prop) : xTree PX G prog_14_method_110_code "CapitalCaseModel" false T_92 := (xT_n (xT_n (xT_n (xT_n (xT_l (yS (y_iload_eq _ _) (s_iload_n d92_0))) (xT_n (xT_l (s_iconst d92_1 (by decide +kernel))) (xT_l (yS (y_aload_eq _ _) (s_aload_n d92_2))))) (xT_n (xT_n (xT_l (yS (y_getf_eq _ _ _) (s_getf (T := TX12) (N := 70) d92_3 rfl inX12 (by decide) wd_1345))) (xT_l (yS (y_inv_eq _ _ _) (s_invS d92_6 cal_115 wd_1629 wd_1630)))) (xT_n (xT_l (yS (y_if_eq yc0_eq _ _) (s_ifeq d92_9 (by decide +kernel)))) (xT_l (yS (y_iload_eq _ _) (s_iload_n d92_12)))))) (xT_n (xT_n (xT_l (s_iconst d92_13 (by decide +kernel))) (xT_n (xT_l (s_sipush d92_14 (by decide +kernel))) (xT_l (yS (y_inv_eq _ _ _) (s_invS d92_17 cal_115 wd_1629 wd_1630))))) (xT_n (xT_n (xT_l (yS (y_if_eq yc1_eq _ _) (s_ifne d92_20 (by decide +kernel)))) (xT_l (s_iconst d92_23 (by decide +kernel)))) (xT_n (xT_l (yS (y_aload_eq _ _) (s_aload_n d92_25))) (xT_l (yS (y_iload_eq _ _) (s_iload_n d92_26))))))) (xT_n (xT_n (xT_n (xT_l (yS (y_invV_eq _ _ _ _) (s_invV (T := TX12) d92_27 cal_150 rfl wd_1886 wd_1888 wd_107))) (xT_n (xT_l (yS (y_istore_eq _ _) (s_istore_n d92_30))) (xT_l (s_bipush d92_31 (by decide +kernel))))) (xT_n (xT_n (xT_l (yS (y_istore_eq _ _) (s_istore d92_33))) (xT_l (s_iconst d92_35 (by decide +kernel)))) (xT_n (xT_l (yS (y_istore_eq _ _) (s_istore d92_36))) (xT_l (s_iconst d92_38 (by decide +kernel)))))) (xT_n (xT_n (xT_l (yS (y_istore_eq _ _) (s_istore d92_39))) (xT_n (xT_l (yS (y_iload_eq _ _) (s_iload d92_41))) (xT_l (s_bipush d92_43 (by decide +kernel))))) (xT_n (xT_n (xT_l (yS (y_icmp_eq yc3_eq _ _) (s_icmpge d92_45 (by decide +kernel)))) (xT_l (yS (y_iload_eq _ _) (s_iload_n d92_48)))) (xT_n (xT_l (yS (y_if_eq yc0_eq _ _) (s_ifeq d92_49 (by decide +kernel)))) (xT_l (yS (y_iload_eq _ _) (s_iload d92_166))))))))
set_option maxRecDepth 100000 in
set_option maxHeartbeats 4000000 in
theorem M_92 : xMeth PX 92 (T_92, 9, [(24, 1), (168, 1)]) := ⟨⟨"CapitalCaseModel", "ask", "(II)I"⟩, prog_14_method_110_code, (some .int), rfl, by decide, fun G => T_92_ok G, xrt_ok (xR_c (Or.inl ⟨rfl, d92_24, rfl⟩) (xR_c (Or.inl ⟨rfl, d92_168, rfl⟩) (xR_n)))⟩
theorem d93_0 : decode prog_14_method_5_code 0 = .ok (.iload_n 1, 1) := by decide +kernel
theorem d93_1 : decode prog_14_method_5_code 1 = .ok (.ifCond .lt 11, 3) := by decide +kernel
theorem d93_4 : decode prog_14_method_5_code 4 = .ok (.iload_n 1, 1) := by decide +kernel
theorem d93_5 : decode prog_14_method_5_code 5 = .ok (.aload_n 0, 1) := by decide +kernel
theorem d93_6 : decode prog_14_method_5_code 6 = .ok (.getfield 163, 3) := by decide +kernel
theorem d93_9 : decode prog_14_method_5_code 9 = .ok (.if_icmp .le 5, 3) := by decide +kernel
theorem d93_12 : decode prog_14_method_5_code 12 = .ok (.iconst (-1), 1) := by decide +kernel
theorem d93_13 : decode prog_14_method_5_code 13 = .ok (.ireturn, 1) := by decide +kernel
theorem d93_14 : decode prog_14_method_5_code 14 = .ok (.aload_n 0, 1) := by decide +kernel
theorem d93_15 : decode prog_14_method_5_code 15 = .ok (.dup, 1) := by decide +kernel
theorem d93_16 : decode prog_14_method_5_code 16 = .ok (.getfield 163, 3) := by decide +kernel
theorem d93_19 : decode prog_14_method_5_code 19 = .ok (.iload_n 1, 1) := by decide +kernel
theorem d93_20 : decode prog_14_method_5_code 20 = .ok (.isub, 1) := by decide +kernel
theorem d93_21 : decode prog_14_method_5_code 21 = .ok (.putfield 163, 3) := by decide +kernel
theorem d93_24 : decode prog_14_method_5_code 24 = .ok (.aload_n 0, 1) := by decide +kernel
theorem d93_25 : decode prog_14_method_5_code 25 = .ok (.getfield 163, 3) := by decide +kernel
theorem d93_28 : decode prog_14_method_5_code 28 = .ok (.ireturn, 1) := by decide +kernel
noncomputable def T_93 : Nat → Option xF := bn 14 (bn 5 (bn 1 (bl 0 (y_iload 1 1)) (bn 4 (bl 1 (y_if yc2 12 4)) (bl 4 (y_iload 1 5)))) (bn 9 (bn 6 (bl 5 (y_aload 0 6)) (bl 6 (y_getf 12 12 9))) (bn 12 (bl 9 (y_icmp yc5 14 12)) (bl 12 (x_const 2147483647 13))))) (bn 20 (bn 16 (bn 15 (bl 14 (y_aload 0 15)) (bl 15 (x_dup 16))) (bn 19 (bl 16 (y_getf 12 12 19)) (bl 19 (y_iload 1 20)))) (bn 24 (bn 21 (bl 20 (y_bin ysub 21)) (bl 21 (y_putf 12 12 0 24))) (bn 25 (bl 24 (y_aload 0 25)) (bl 25 (y_getf 12 12 28)))))
set_option maxRecDepth 100000 in
set_option maxHeartbeats 4000000 in
theorem T_93_ok (G : State → Nat → Nat → Prop) : xTree PX G prog_14_method_5_code "CapitalCaseModel" false T_93 := (xT_n (xT_n (xT_n (xT_l (yS (y_iload_eq _ _) (s_iload_n d93_0))) (xT_n (xT_l (yS (y_if_eq yc2_eq _ _) (s_iflt d93_1 (by decide +kernel)))) (xT_l (yS (y_iload_eq _ _) (s_iload_n d93_4))))) (xT_n (xT_n (xT_l (yS (y_aload_eq _ _) (s_aload_n d93_5))) (xT_l (yS (y_getf_eq _ _ _) (s_getf (T := TX12) (N := 70) d93_6 rfl inX12 (by decide) wd_1283)))) (xT_n (xT_l (yS (y_icmp_eq yc5_eq _ _) (s_icmple d93_9 (by decide +kernel)))) (xT_l (s_iconst d93_12 (by decide +kernel)))))) (xT_n (xT_n (xT_n (xT_l (yS (y_aload_eq _ _) (s_aload_n d93_14))) (xT_l (s_dup d93_15))) (xT_n (xT_l (yS (y_getf_eq _ _ _) (s_getf (T := TX12) (N := 70) d93_16 rfl inX12 (by decide) wd_1283))) (xT_l (yS (y_iload_eq _ _) (s_iload_n d93_19))))) (xT_n (xT_n (xT_l (yS (y_bin_eq _ _) (s_isub d93_20))) (xT_l (yS (y_putf_eq _ _ _ _) (s_putf (T := TX12) (N := 70) (ty := tyX12) d93_21 rfl inX12 tyX12_ok nmX12 (by decide) wd_1283 (Or.inl ⟨rfl, rfl⟩) rfl)))) (xT_n (xT_l (yS (y_aload_eq _ _) (s_aload_n d93_24))) (xT_l (yS (y_getf_eq _ _ _) (s_getf (T := TX12) (N := 70) d93_25 rfl inX12 (by decide) wd_1283)))))))
set_option maxRecDepth 100000 in
set_option maxHeartbeats 4000000 in
theorem M_93 : xMeth PX 93 (T_93, 2, [(13, 1), (28, 1)]) := ⟨⟨"CapitalCaseModel", "back", "(I)I"⟩, prog_14_method_5_code, (some .int), rfl, by decide, fun G => T_93_ok G, xrt_ok (xR_c (Or.inl ⟨rfl, d93_13, rfl⟩) (xR_c (Or.inl ⟨rfl, d93_28, rfl⟩) (xR_n)))⟩
theorem d94_0 : decode prog_14_method_97_code 0 = .ok (.iload_n 1, 1) := by decide +kernel
theorem d94_1 : decode prog_14_method_97_code 1 = .ok (.iconst 0, 1) := by decide +kernel
theorem d94_2 : decode prog_14_method_97_code 2 = .ok (.iconst 1, 1) := by decide +kernel
theorem d94_3 : decode prog_14_method_97_code 3 = .ok (.invokestatic 324, 3) := by decide +kernel
theorem d94_6 : decode prog_14_method_97_code 6 = .ok (.ifCond .ne 5, 3) := by decide +kernel
theorem d94_9 : decode prog_14_method_97_code 9 = .ok (.iconst (-1), 1) := by decide +kernel
theorem d94_10 : decode prog_14_method_97_code 10 = .ok (.ireturn, 1) := by decide +kernel
theorem d94_11 : decode prog_14_method_97_code 11 = .ok (.aload_n 0, 1) := by decide +kernel
theorem d94_12 : decode prog_14_method_97_code 12 = .ok (.invokevirtual 411, 3) := by decide +kernel
theorem d94_15 : decode prog_14_method_97_code 15 = .ok (.iconst 0, 1) := by decide +kernel
theorem d94_16 : decode prog_14_method_97_code 16 = .ok (.istore_n 2, 1) := by decide +kernel
theorem d94_17 : decode prog_14_method_97_code 17 = .ok (.bipush (-2), 2) := by decide +kernel
theorem d94_19 : decode prog_14_method_97_code 19 = .ok (.istore_n 3, 1) := by decide +kernel
theorem d94_20 : decode prog_14_method_97_code 20 = .ok (.iconst 0, 1) := by decide +kernel
theorem d94_21 : decode prog_14_method_97_code 21 = .ok (.istore 4, 2) := by decide +kernel
theorem d94_23 : decode prog_14_method_97_code 23 = .ok (.iload 4, 2) := by decide +kernel
theorem d94_25 : decode prog_14_method_97_code 25 = .ok (.aload_n 0, 1) := by decide +kernel
theorem d94_26 : decode prog_14_method_97_code 26 = .ok (.getfield 43, 3) := by decide +kernel
theorem d94_29 : decode prog_14_method_97_code 29 = .ok (.aload_n 0, 1) := by decide +kernel
theorem d94_30 : decode prog_14_method_97_code 30 = .ok (.getfield 230, 3) := by decide +kernel
theorem d94_33 : decode prog_14_method_97_code 33 = .ok (.iaload, 1) := by decide +kernel
theorem d94_34 : decode prog_14_method_97_code 34 = .ok (.if_icmp .ge 110, 3) := by decide +kernel
theorem d94_144 : decode prog_14_method_97_code 144 = .ok (.iload_n 1, 1) := by decide +kernel
theorem d94_145 : decode prog_14_method_97_code 145 = .ok (.ifCond .ne 7, 3) := by decide +kernel
theorem d94_148 : decode prog_14_method_97_code 148 = .ok (.iload_n 2, 1) := by decide +kernel
theorem d94_149 : decode prog_14_method_97_code 149 = .ok (.goto 4, 3) := by decide +kernel
theorem d94_152 : decode prog_14_method_97_code 152 = .ok (.iload_n 3, 1) := by decide +kernel
theorem d94_153 : decode prog_14_method_97_code 153 = .ok (.ireturn, 1) := by decide +kernel
noncomputable def T_94 : Nat → Option xF := bn 21 (bn 11 (bn 3 (bn 1 (bl 0 (y_iload 1 1)) (bn 2 (bl 1 (x_const 2147483648 2)) (bl 2 (x_const 2147483649 3)))) (bn 6 (bl 3 (y_inv 115 3 6)) (bn 9 (bl 6 (y_if yc1 11 9)) (bl 9 (x_const 2147483647 10))))) (bn 16 (bn 12 (bl 11 (y_aload 0 12)) (bn 15 (bl 12 (y_invV 12 101 1 15)) (bl 15 (x_const 2147483648 16)))) (bn 19 (bn 17 (bl 16 (y_istore 2 17)) (bl 17 (x_const 2147483646 19))) (bn 20 (bl 19 (y_istore 3 20)) (bl 20 (x_const 2147483648 21)))))) (bn 33 (bn 26 (bn 23 (bl 21 (y_istore 4 23)) (bn 25 (bl 23 (y_iload 4 25)) (bl 25 (y_aload 0 26)))) (bn 29 (bl 26 (y_getf 12 3 29)) (bn 30 (bl 29 (y_aload 0 30)) (bl 30 (y_getf 12 2 33))))) (bn 145 (bn 34 (bl 33 (y_iald 34)) (bn 144 (bl 34 (y_icmp yc3 144 37)) (bl 144 (y_iload 1 145)))) (bn 149 (bn 148 (bl 145 (y_if yc1 152 148)) (bl 148 (y_iload 2 149))) (bn 152 (bl 149 (x_goto 153)) (bl 152 (y_iload 3 153))))))
set_option maxRecDepth 100000 in
set_option maxHeartbeats 4000000 in
theorem T_94_ok (G : State → Nat → Nat → Prop) : xTree PX G prog_14_method_97_code "CapitalCaseModel" false T_94 := (xT_n (xT_n (xT_n (xT_n (xT_l (yS (y_iload_eq _ _) (s_iload_n d94_0))) (xT_n (xT_l (s_iconst d94_1 (by decide +kernel))) (xT_l (s_iconst d94_2 (by decide +kernel))))) (xT_n (xT_l (yS (y_inv_eq _ _ _) (s_invS d94_3 cal_115 wd_1629 wd_1630))) (xT_n (xT_l (yS (y_if_eq yc1_eq _ _) (s_ifne d94_6 (by decide +kernel)))) (xT_l (s_iconst d94_9 (by decide +kernel)))))) (xT_n (xT_n (xT_l (yS (y_aload_eq _ _) (s_aload_n d94_11))) (xT_n (xT_l (yS (y_invV_eq _ _ _ _) (s_invV (T := TX12) d94_12 cal_101 rfl wd_1635 wd_1637 wd_73))) (xT_l (s_iconst d94_15 (by decide +kernel))))) (xT_n (xT_n (xT_l (yS (y_istore_eq _ _) (s_istore_n d94_16))) (xT_l (s_bipush d94_17 (by decide +kernel)))) (xT_n (xT_l (yS (y_istore_eq _ _) (s_istore_n d94_19))) (xT_l (s_iconst d94_20 (by decide +kernel))))))) (xT_n (xT_n (xT_n (xT_l (yS (y_istore_eq _ _) (s_istore d94_21))) (xT_n (xT_l (yS (y_iload_eq _ _) (s_iload d94_23))) (xT_l (yS (y_aload_eq _ _) (s_aload_n d94_25))))) (xT_n (xT_l (yS (y_getf_eq _ _ _) (s_getf (T := TX12) (N := 70) d94_26 rfl inX12 (by decide) wd_1303))) (xT_n (xT_l (yS (y_aload_eq _ _) (s_aload_n d94_29))) (xT_l (yS (y_getf_eq _ _ _) (s_getf (T := TX12) (N := 70) d94_30 rfl inX12 (by decide) wd_1299)))))) (xT_n (xT_n (xT_l (yS (y_iald_eq _) (s_iald d94_33))) (xT_n (xT_l (yS (y_icmp_eq yc3_eq _ _) (s_icmpge d94_34 (by decide +kernel)))) (xT_l (yS (y_iload_eq _ _) (s_iload_n d94_144))))) (xT_n (xT_n (xT_l (yS (y_if_eq yc1_eq _ _) (s_ifne d94_145 (by decide +kernel)))) (xT_l (yS (y_iload_eq _ _) (s_iload_n d94_148)))) (xT_n (xT_l (s_goto d94_149 (by decide +kernel))) (xT_l (yS (y_iload_eq _ _) (s_iload_n d94_152))))))))
set_option maxRecDepth 100000 in
set_option maxHeartbeats 4000000 in
theorem M_94 : xMeth PX 94 (T_94, 7, [(10, 1), (153, 1)]) := ⟨⟨"CapitalCaseModel", "bargains", "(I)I"⟩, prog_14_method_97_code, (some .int), rfl, by decide, fun G => T_94_ok G, xrt_ok (xR_c (Or.inl ⟨rfl, d94_10, rfl⟩) (xR_c (Or.inl ⟨rfl, d94_153, rfl⟩) (xR_n)))⟩
theorem d95_0 : decode prog_14_method_46_code 0 = .ok (.iconst 0, 1) := by decide +kernel
theorem d95_1 : decode prog_14_method_46_code 1 = .ok (.istore_n 1, 1) := by decide +kernel
theorem d95_2 : decode prog_14_method_46_code 2 = .ok (.iload_n 1, 1) := by decide +kernel
theorem d95_3 : decode prog_14_method_46_code 3 = .ok (.sipush 390, 3) := by decide +kernel
theorem d95_6 : decode prog_14_method_46_code 6 = .ok (.if_icmp .ge 16, 3) := by decide +kernel
theorem d95_9 : decode prog_14_method_46_code 9 = .ok (.aload_n 0, 1) := by decide +kernel
theorem d95_10 : decode prog_14_method_46_code 10 = .ok (.getfield 116, 3) := by decide +kernel
theorem d95_13 : decode prog_14_method_46_code 13 = .ok (.iload_n 1, 1) := by decide +kernel
theorem d95_14 : decode prog_14_method_46_code 14 = .ok (.iconst 0, 1) := by decide +kernel
theorem d95_15 : decode prog_14_method_46_code 15 = .ok (.iastore, 1) := by decide +kernel
theorem d95_16 : decode prog_14_method_46_code 16 = .ok (.iinc 1 1, 3) := by decide +kernel
theorem d95_19 : decode prog_14_method_46_code 19 = .ok (.goto (-17), 3) := by decide +kernel
theorem d95_22 : decode prog_14_method_46_code 22 = .ok (.iconst 0, 1) := by decide +kernel
theorem d95_23 : decode prog_14_method_46_code 23 = .ok (.istore_n 1, 1) := by decide +kernel
theorem d95_24 : decode prog_14_method_46_code 24 = .ok (.iload_n 1, 1) := by decide +kernel
theorem d95_25 : decode prog_14_method_46_code 25 = .ok (.bipush 8, 2) := by decide +kernel
theorem d95_27 : decode prog_14_method_46_code 27 = .ok (.aload_n 0, 1) := by decide +kernel
theorem d95_28 : decode prog_14_method_46_code 28 = .ok (.getfield 43, 3) := by decide +kernel
theorem d95_31 : decode prog_14_method_46_code 31 = .ok (.aload_n 0, 1) := by decide +kernel
theorem d95_32 : decode prog_14_method_46_code 32 = .ok (.getfield 230, 3) := by decide +kernel
theorem d95_35 : decode prog_14_method_46_code 35 = .ok (.iaload, 1) := by decide +kernel
theorem d95_36 : decode prog_14_method_46_code 36 = .ok (.imul, 1) := by decide +kernel
theorem d95_37 : decode prog_14_method_46_code 37 = .ok (.if_icmp .ge 29, 3) := by decide +kernel
theorem d95_66 : decode prog_14_method_46_code 66 = .ok (.aload_n 0, 1) := by decide +kernel
theorem d95_67 : decode prog_14_method_46_code 67 = .ok (.aload_n 0, 1) := by decide +kernel
theorem d95_68 : decode prog_14_method_46_code 68 = .ok (.getfield 70, 3) := by decide +kernel
theorem d95_71 : decode prog_14_method_46_code 71 = .ok (.aload_n 0, 1) := by decide +kernel
theorem d95_72 : decode prog_14_method_46_code 72 = .ok (.getfield 230, 3) := by decide +kernel
theorem d95_75 : decode prog_14_method_46_code 75 = .ok (.iaload, 1) := by decide +kernel
theorem d95_76 : decode prog_14_method_46_code 76 = .ok (.putfield 328, 3) := by decide +kernel
theorem d95_79 : decode prog_14_method_46_code 79 = .ok (.aload_n 0, 1) := by decide +kernel
theorem d95_80 : decode prog_14_method_46_code 80 = .ok (.iconst 0, 1) := by decide +kernel
theorem d95_81 : decode prog_14_method_46_code 81 = .ok (.putfield 331, 3) := by decide +kernel
theorem d95_84 : decode prog_14_method_46_code 84 = .ok (.aload_n 0, 1) := by decide +kernel
theorem d95_85 : decode prog_14_method_46_code 85 = .ok (.iconst (-1), 1) := by decide +kernel
theorem d95_86 : decode prog_14_method_46_code 86 = .ok (.putfield 334, 3) := by decide +kernel
theorem d95_89 : decode prog_14_method_46_code 89 = .ok (.return_, 1) := by decide +kernel
noncomputable def T_95 : Nat → Option xF := bn 31 (bn 15 (bn 6 (bn 2 (bn 1 (bl 0 (x_const 2147483648 1)) (bl 1 (y_istore 1 2))) (bn 3 (bl 2 (y_iload 1 3)) (bl 3 (x_const 2147484038 6)))) (bn 10 (bn 9 (bl 6 (y_icmp yc3 22 9)) (bl 9 (y_aload 0 10))) (bn 13 (bl 10 (y_getf 12 0 13)) (bn 14 (bl 13 (y_iload 1 14)) (bl 14 (x_const 2147483648 15)))))) (bn 23 (bn 19 (bn 16 (bl 15 (y_iast 16)) (bl 16 (y_iinc 1 2147483649 19))) (bn 22 (bl 19 (x_goto 2)) (bl 22 (x_const 2147483648 23)))) (bn 25 (bn 24 (bl 23 (y_istore 1 24)) (bl 24 (y_iload 1 25))) (bn 27 (bl 25 (x_const 2147483656 27)) (bn 28 (bl 27 (y_aload 0 28)) (bl 28 (y_getf 12 3 31))))))) (bn 72 (bn 37 (bn 35 (bn 32 (bl 31 (y_aload 0 32)) (bl 32 (y_getf 12 2 35))) (bn 36 (bl 35 (y_iald 36)) (bl 36 (y_bin (xfg (fun x y => x * y)) 37)))) (bn 67 (bn 66 (bl 37 (y_icmp yc3 66 40)) (bl 66 (y_aload 0 67))) (bn 68 (bl 67 (y_aload 0 68)) (bn 71 (bl 68 (y_getf 12 5 71)) (bl 71 (y_aload 0 72)))))) (bn 80 (bn 76 (bn 75 (bl 72 (y_getf 12 2 75)) (bl 75 (y_iald 76))) (bn 79 (bl 76 (y_putf 12 6 0 79)) (bl 79 (y_aload 0 80)))) (bn 84 (bn 81 (bl 80 (x_const 2147483648 81)) (bl 81 (y_putf 12 7 1 84))) (bn 85 (bl 84 (y_aload 0 85)) (bn 86 (bl 85 (x_const 2147483647 86)) (bl 86 (y_putf 12 8 0 89)))))))
set_option maxRecDepth 100000 in
set_option maxHeartbeats 4000000 in
theorem T_95_ok (G : State → Nat → Nat → Prop) : xTree PX G prog_14_method_46_code "CapitalCaseModel" false T_95 := (xT_n (xT_n (xT_n (xT_n (xT_n (xT_l (s_iconst d95_0 (by decide +kernel))) (xT_l (yS (y_istore_eq _ _) (s_istore_n d95_1)))) (xT_n (xT_l (yS (y_iload_eq _ _) (s_iload_n d95_2))) (xT_l (s_sipush d95_3 (by decide +kernel))))) (xT_n (xT_n (xT_l (yS (y_icmp_eq yc3_eq _ _) (s_icmpge d95_6 (by decide +kernel)))) (xT_l (yS (y_aload_eq _ _) (s_aload_n d95_9)))) (xT_n (xT_l (yS (y_getf_eq _ _ _) (s_getf (T := TX12) (N := 70) d95_10 rfl inX12 (by decide) wd_1332))) (xT_n (xT_l (yS (y_iload_eq _ _) (s_iload_n d95_13))) (xT_l (s_iconst d95_14 (by decide +kernel))))))) (xT_n (xT_n (xT_n (xT_l (yS (y_iast_eq _) (s_iast d95_15))) (xT_l (yS (y_iinc_eq _ _ _) (s_iinc d95_16 (by decide +kernel))))) (xT_n (xT_l (s_goto d95_19 (by decide +kernel))) (xT_l (s_iconst d95_22 (by decide +kernel))))) (xT_n (xT_n (xT_l (yS (y_istore_eq _ _) (s_istore_n d95_23))) (xT_l (yS (y_iload_eq _ _) (s_iload_n d95_24)))) (xT_n (xT_l (s_bipush d95_25 (by decide +kernel))) (xT_n (xT_l (yS (y_aload_eq _ _) (s_aload_n d95_27))) (xT_l (yS (y_getf_eq _ _ _) (s_getf (T := TX12) (N := 70) d95_28 rfl inX12 (by decide) wd_1303)))))))) (xT_n (xT_n (xT_n (xT_n (xT_l (yS (y_aload_eq _ _) (s_aload_n d95_31))) (xT_l (yS (y_getf_eq _ _ _) (s_getf (T := TX12) (N := 70) d95_32 rfl inX12 (by decide) wd_1299)))) (xT_n (xT_l (yS (y_iald_eq _) (s_iald d95_35))) (xT_l (yS (y_bin_eq _ _) (s_imul d95_36))))) (xT_n (xT_n (xT_l (yS (y_icmp_eq yc3_eq _ _) (s_icmpge d95_37 (by decide +kernel)))) (xT_l (yS (y_aload_eq _ _) (s_aload_n d95_66)))) (xT_n (xT_l (yS (y_aload_eq _ _) (s_aload_n d95_67))) (xT_n (xT_l (yS (y_getf_eq _ _ _) (s_getf (T := TX12) (N := 70) d95_68 rfl inX12 (by decide) wd_1312))) (xT_l (yS (y_aload_eq _ _) (s_aload_n d95_71))))))) (xT_n (xT_n (xT_n (xT_l (yS (y_getf_eq _ _ _) (s_getf (T := TX12) (N := 70) d95_72 rfl inX12 (by decide) wd_1299))) (xT_l (yS (y_iald_eq _) (s_iald d95_75)))) (xT_n (xT_l (yS (y_putf_eq _ _ _ _) (s_putf (T := TX12) (N := 70) (ty := tyX12) d95_76 rfl inX12 tyX12_ok nmX12 (by decide) wd_1333 (Or.inl ⟨rfl, rfl⟩) rfl))) (xT_l (yS (y_aload_eq _ _) (s_aload_n d95_79))))) (xT_n (xT_n (xT_l (s_iconst d95_80 (by decide +kernel))) (xT_l (yS (y_putf_eq _ _ _ _) (s_putf (T := TX12) (N := 70) (ty := tyX12) d95_81 rfl inX12 tyX12_ok nmX12 (by decide) wd_1334 (Or.inr (Or.inl ⟨rfl, rfl⟩)) rfl)))) (xT_n (xT_l (yS (y_aload_eq _ _) (s_aload_n d95_84))) (xT_n (xT_l (s_iconst d95_85 (by decide +kernel))) (xT_l (yS (y_putf_eq _ _ _ _) (s_putf (T := TX12) (N := 70) (ty := tyX12) d95_86 rfl inX12 tyX12_ok nmX12 (by decide) wd_1335 (Or.inl ⟨rfl, rfl⟩) rfl)))))))))
set_option maxRecDepth 100000 in
set_option maxHeartbeats 4000000 in
theorem M_95 : xMeth PX 95 (T_95, 2, [(89, 3)]) := ⟨⟨"CapitalCaseModel", "begins", "()V"⟩, prog_14_method_46_code, none, rfl, by decide, fun G => T_95_ok G, xrt_ok (xR_c (Or.inr (Or.inr (Or.inl ⟨rfl, d95_89, rfl⟩))) (xR_n))⟩
theorem d96_0 : decode prog_14_method_88_code 0 = .ok (.iload_n 1, 1) := by decide +kernel
theorem d96_1 : decode prog_14_method_88_code 1 = .ok (.iconst 0, 1) := by decide +kernel
theorem d96_2 : decode prog_14_method_88_code 2 = .ok (.iconst 1, 1) := by decide +kernel
theorem d96_3 : decode prog_14_method_88_code 3 = .ok (.invokestatic 324, 3) := by decide +kernel
theorem d96_6 : decode prog_14_method_88_code 6 = .ok (.ifCond .ne 5, 3) := by decide +kernel
theorem d96_9 : decode prog_14_method_88_code 9 = .ok (.iconst (-1), 1) := by decide +kernel
theorem d96_10 : decode prog_14_method_88_code 10 = .ok (.ireturn, 1) := by decide +kernel
theorem d96_11 : decode prog_14_method_88_code 11 = .ok (.aload_n 0, 1) := by decide +kernel
theorem d96_12 : decode prog_14_method_88_code 12 = .ok (.invokevirtual 411, 3) := by decide +kernel
theorem d96_15 : decode prog_14_method_88_code 15 = .ok (.aload_n 0, 1) := by decide +kernel
theorem d96_16 : decode prog_14_method_88_code 16 = .ok (.invokevirtual 451, 3) := by decide +kernel
theorem d96_19 : decode prog_14_method_88_code 19 = .ok (.iload_n 1, 1) := by decide +kernel
theorem d96_20 : decode prog_14_method_88_code 20 = .ok (.ifCond .ne 10, 3) := by decide +kernel
theorem d96_23 : decode prog_14_method_88_code 23 = .ok (.aload_n 0, 1) := by decide +kernel
theorem d96_24 : decode prog_14_method_88_code 24 = .ok (.getfield 442, 3) := by decide +kernel
theorem d96_27 : decode prog_14_method_88_code 27 = .ok (.goto 7, 3) := by decide +kernel
theorem d96_30 : decode prog_14_method_88_code 30 = .ok (.aload_n 0, 1) := by decide +kernel
theorem d96_31 : decode prog_14_method_88_code 31 = .ok (.getfield 445, 3) := by decide +kernel
theorem d96_34 : decode prog_14_method_88_code 34 = .ok (.ireturn, 1) := by decide +kernel
noncomputable def T_96 : Nat → Option xF := bn 15 (bn 6 (bn 2 (bn 1 (bl 0 (y_iload 1 1)) (bl 1 (x_const 2147483648 2))) (bn 3 (bl 2 (x_const 2147483649 3)) (bl 3 (y_inv 115 3 6)))) (bn 11 (bn 9 (bl 6 (y_if yc1 11 9)) (bl 9 (x_const 2147483647 10))) (bn 12 (bl 11 (y_aload 0 12)) (bl 12 (y_invV 12 101 1 15))))) (bn 23 (bn 19 (bn 16 (bl 15 (y_aload 0 16)) (bl 16 (y_invV 12 107 1 19))) (bn 20 (bl 19 (y_iload 1 20)) (bl 20 (y_if yc1 30 23)))) (bn 27 (bn 24 (bl 23 (y_aload 0 24)) (bl 24 (y_getf 12 62 27))) (bn 30 (bl 27 (x_goto 34)) (bn 31 (bl 30 (y_aload 0 31)) (bl 31 (y_getf 12 63 34))))))
set_option maxRecDepth 100000 in
set_option maxHeartbeats 4000000 in
theorem T_96_ok (G : State → Nat → Nat → Prop) : xTree PX G prog_14_method_88_code "CapitalCaseModel" false T_96 := (xT_n (xT_n (xT_n (xT_n (xT_l (yS (y_iload_eq _ _) (s_iload_n d96_0))) (xT_l (s_iconst d96_1 (by decide +kernel)))) (xT_n (xT_l (s_iconst d96_2 (by decide +kernel))) (xT_l (yS (y_inv_eq _ _ _) (s_invS d96_3 cal_115 wd_1629 wd_1630))))) (xT_n (xT_n (xT_l (yS (y_if_eq yc1_eq _ _) (s_ifne d96_6 (by decide +kernel)))) (xT_l (s_iconst d96_9 (by decide +kernel)))) (xT_n (xT_l (yS (y_aload_eq _ _) (s_aload_n d96_11))) (xT_l (yS (y_invV_eq _ _ _ _) (s_invV (T := TX12) d96_12 cal_101 rfl wd_1635 wd_1637 wd_73)))))) (xT_n (xT_n (xT_n (xT_l (yS (y_aload_eq _ _) (s_aload_n d96_15))) (xT_l (yS (y_invV_eq _ _ _ _) (s_invV (T := TX12) d96_16 cal_107 rfl wd_1794 wd_1796 wd_99)))) (xT_n (xT_l (yS (y_iload_eq _ _) (s_iload_n d96_19))) (xT_l (yS (y_if_eq yc1_eq _ _) (s_ifne d96_20 (by decide +kernel)))))) (xT_n (xT_n (xT_l (yS (y_aload_eq _ _) (s_aload_n d96_23))) (xT_l (yS (y_getf_eq _ _ _) (s_getf (T := TX12) (N := 70) d96_24 rfl inX12 (by decide) wd_1343)))) (xT_n (xT_l (s_goto d96_27 (by decide +kernel))) (xT_n (xT_l (yS (y_aload_eq _ _) (s_aload_n d96_30))) (xT_l (yS (y_getf_eq _ _ _) (s_getf (T := TX12) (N := 70) d96_31 rfl inX12 (by decide) wd_1344))))))))
set_option maxRecDepth 100000 in
set_option maxHeartbeats 4000000 in
theorem M_96 : xMeth PX 96 (T_96, 2, [(10, 1), (34, 1)]) := ⟨⟨"CapitalCaseModel", "best", "(I)I"⟩, prog_14_method_88_code, (some .int), rfl, by decide, fun G => T_96_ok G, xrt_ok (xR_c (Or.inl ⟨rfl, d96_10, rfl⟩) (xR_c (Or.inl ⟨rfl, d96_34, rfl⟩) (xR_n)))⟩
theorem d97_0 : decode prog_14_method_42_code 0 = .ok (.iconst 0, 1) := by decide +kernel
theorem d97_1 : decode prog_14_method_42_code 1 = .ok (.istore_n 1, 1) := by decide +kernel
theorem d97_2 : decode prog_14_method_42_code 2 = .ok (.iconst 0, 1) := by decide +kernel
theorem d97_3 : decode prog_14_method_42_code 3 = .ok (.istore_n 2, 1) := by decide +kernel
theorem d97_4 : decode prog_14_method_42_code 4 = .ok (.iload_n 2, 1) := by decide +kernel
theorem d97_5 : decode prog_14_method_42_code 5 = .ok (.bipush 8, 2) := by decide +kernel
theorem d97_7 : decode prog_14_method_42_code 7 = .ok (.if_icmp .ge 17, 3) := by decide +kernel
theorem d97_10 : decode prog_14_method_42_code 10 = .ok (.iload_n 1, 1) := by decide +kernel
theorem d97_11 : decode prog_14_method_42_code 11 = .ok (.iload_n 0, 1) := by decide +kernel
theorem d97_12 : decode prog_14_method_42_code 12 = .ok (.iload_n 2, 1) := by decide +kernel
theorem d97_13 : decode prog_14_method_42_code 13 = .ok (.ishr, 1) := by decide +kernel
theorem d97_14 : decode prog_14_method_42_code 14 = .ok (.iconst 1, 1) := by decide +kernel
theorem d97_15 : decode prog_14_method_42_code 15 = .ok (.iand, 1) := by decide +kernel
theorem d97_16 : decode prog_14_method_42_code 16 = .ok (.iadd, 1) := by decide +kernel
theorem d97_17 : decode prog_14_method_42_code 17 = .ok (.istore_n 1, 1) := by decide +kernel
theorem d97_18 : decode prog_14_method_42_code 18 = .ok (.iinc 2 1, 3) := by decide +kernel
theorem d97_21 : decode prog_14_method_42_code 21 = .ok (.goto (-17), 3) := by decide +kernel
theorem d97_24 : decode prog_14_method_42_code 24 = .ok (.iload_n 1, 1) := by decide +kernel
theorem d97_25 : decode prog_14_method_42_code 25 = .ok (.ireturn, 1) := by decide +kernel
noncomputable def T_97 : Nat → Option xF := bn 12 (bn 4 (bn 2 (bn 1 (bl 0 (x_const 2147483648 1)) (bl 1 (y_istore 1 2))) (bn 3 (bl 2 (x_const 2147483648 3)) (bl 3 (y_istore 2 4)))) (bn 7 (bn 5 (bl 4 (y_iload 2 5)) (bl 5 (x_const 2147483656 7))) (bn 10 (bl 7 (y_icmp yc3 24 10)) (bn 11 (bl 10 (y_iload 1 11)) (bl 11 (y_iload 0 12)))))) (bn 16 (bn 14 (bn 13 (bl 12 (y_iload 2 13)) (bl 13 (y_bin (xfg (fun x y => x >>> (y &&& 31))) 14))) (bn 15 (bl 14 (x_const 2147483649 15)) (bl 15 (y_bin (xfg (fun x y => x &&& y)) 16)))) (bn 18 (bn 17 (bl 16 (y_bin yadd 17)) (bl 17 (y_istore 1 18))) (bn 21 (bl 18 (y_iinc 2 2147483649 21)) (bn 24 (bl 21 (x_goto 4)) (bl 24 (y_iload 1 25))))))
set_option maxRecDepth 100000 in
set_option maxHeartbeats 4000000 in
theorem T_97_ok (G : State → Nat → Nat → Prop) : xTree PX G prog_14_method_42_code "CapitalCaseModel" false T_97 := (xT_n (xT_n (xT_n (xT_n (xT_l (s_iconst d97_0 (by decide +kernel))) (xT_l (yS (y_istore_eq _ _) (s_istore_n d97_1)))) (xT_n (xT_l (s_iconst d97_2 (by decide +kernel))) (xT_l (yS (y_istore_eq _ _) (s_istore_n d97_3))))) (xT_n (xT_n (xT_l (yS (y_iload_eq _ _) (s_iload_n d97_4))) (xT_l (s_bipush d97_5 (by decide +kernel)))) (xT_n (xT_l (yS (y_icmp_eq yc3_eq _ _) (s_icmpge d97_7 (by decide +kernel)))) (xT_n (xT_l (yS (y_iload_eq _ _) (s_iload_n d97_10))) (xT_l (yS (y_iload_eq _ _) (s_iload_n d97_11))))))) (xT_n (xT_n (xT_n (xT_l (yS (y_iload_eq _ _) (s_iload_n d97_12))) (xT_l (yS (y_bin_eq _ _) (s_ishr d97_13)))) (xT_n (xT_l (s_iconst d97_14 (by decide +kernel))) (xT_l (yS (y_bin_eq _ _) (s_iand d97_15))))) (xT_n (xT_n (xT_l (yS (y_bin_eq _ _) (s_iadd d97_16))) (xT_l (yS (y_istore_eq _ _) (s_istore_n d97_17)))) (xT_n (xT_l (yS (y_iinc_eq _ _ _) (s_iinc d97_18 (by decide +kernel)))) (xT_n (xT_l (s_goto d97_21 (by decide +kernel))) (xT_l (yS (y_iload_eq _ _) (s_iload_n d97_24))))))))
set_option maxRecDepth 100000 in
set_option maxHeartbeats 4000000 in
theorem M_97 : xMeth PX 97 (T_97, 3, [(25, 1)]) := ⟨⟨"CapitalCaseModel", "bits", "(I)I"⟩, prog_14_method_42_code, (some .int), rfl, by decide, fun G => T_97_ok G, xrt_ok (xR_c (Or.inl ⟨rfl, d97_25, rfl⟩) (xR_n))⟩
theorem d98_0 : decode prog_14_method_6_code 0 = .ok (.iload_n 1, 1) := by decide +kernel
theorem d98_1 : decode prog_14_method_6_code 1 = .ok (.aload_n 0, 1) := by decide +kernel
theorem d98_2 : decode prog_14_method_6_code 2 = .ok (.getfield 169, 3) := by decide +kernel
theorem d98_5 : decode prog_14_method_6_code 5 = .ok (.if_icmp .ge 16, 3) := by decide +kernel
theorem d98_21 : decode prog_14_method_6_code 21 = .ok (.iconst 0, 1) := by decide +kernel
theorem d98_22 : decode prog_14_method_6_code 22 = .ok (.ireturn, 1) := by decide +kernel
noncomputable def T_98 : Nat → Option xF := bn 2 (bn 1 (bl 0 (y_iload 1 1)) (bl 1 (y_aload 0 2))) (bn 5 (bl 2 (y_getf 12 18 5)) (bn 21 (bl 5 (y_icmp yc3 21 8)) (bl 21 (x_const 2147483648 22))))
set_option maxRecDepth 100000 in
set_option maxHeartbeats 4000000 in
theorem T_98_ok (G : State → Nat → Nat → Prop) : xTree PX G prog_14_method_6_code "CapitalCaseModel" false T_98 := (xT_n (xT_n (xT_l (yS (y_iload_eq _ _) (s_iload_n d98_0))) (xT_l (yS (y_aload_eq _ _) (s_aload_n d98_1)))) (xT_n (xT_l (yS (y_getf_eq _ _ _) (s_getf (T := TX12) (N := 70) d98_2 rfl inX12 (by decide) wd_1285))) (xT_n (xT_l (yS (y_icmp_eq yc3_eq _ _) (s_icmpge d98_5 (by decide +kernel)))) (xT_l (s_iconst d98_21 (by decide +kernel))))))
set_option maxRecDepth 100000 in
set_option maxHeartbeats 4000000 in
theorem M_98 : xMeth PX 98 (T_98, 2, [(22, 1)]) := ⟨⟨"CapitalCaseModel", "byteAt", "(I)I"⟩, prog_14_method_6_code, (some .int), rfl, by decide, fun G => T_98_ok G, xrt_ok (xR_c (Or.inl ⟨rfl, d98_22, rfl⟩) (xR_n))⟩
theorem d99_0 : decode prog_14_method_99_code 0 = .ok (.aload_n 0, 1) := by decide +kernel
theorem d99_1 : decode prog_14_method_99_code 1 = .ok (.iload_n 1, 1) := by decide +kernel
theorem d99_2 : decode prog_14_method_99_code 2 = .ok (.invokevirtual 417, 3) := by decide +kernel
theorem d99_5 : decode prog_14_method_99_code 5 = .ok (.ifCond .ne 5, 3) := by decide +kernel
theorem d99_8 : decode prog_14_method_99_code 8 = .ok (.iconst (-1), 1) := by decide +kernel
theorem d99_9 : decode prog_14_method_99_code 9 = .ok (.ireturn, 1) := by decide +kernel
noncomputable def T_99 : Nat → Option xF := bn 2 (bn 1 (bl 0 (y_aload 0 1)) (bl 1 (y_iload 1 2))) (bn 5 (bl 2 (y_invV 12 120 2 5)) (bn 8 (bl 5 (y_if yc1 10 8)) (bl 8 (x_const 2147483647 9))))
set_option maxRecDepth 100000 in
set_option maxHeartbeats 4000000 in
theorem T_99_ok (G : State → Nat → Nat → Prop) : xTree PX G prog_14_method_99_code "CapitalCaseModel" false T_99 := (xT_n (xT_n (xT_l (yS (y_aload_eq _ _) (s_aload_n d99_0))) (xT_l (yS (y_iload_eq _ _) (s_iload_n d99_1)))) (xT_n (xT_l (yS (y_invV_eq _ _ _ _) (s_invV (T := TX12) d99_2 cal_120 rfl wd_1678 wd_1680 wd_82))) (xT_n (xT_l (yS (y_if_eq yc1_eq _ _) (s_ifne d99_5 (by decide +kernel)))) (xT_l (s_iconst d99_8 (by decide +kernel))))))
set_option maxRecDepth 100000 in
set_option maxHeartbeats 4000000 in
theorem M_99 : xMeth PX 99 (T_99, 6, [(9, 1)]) := ⟨⟨"CapitalCaseModel", "clash", "(I)I"⟩, prog_14_method_99_code, (some .int), rfl, by decide, fun G => T_99_ok G, xrt_ok (xR_c (Or.inl ⟨rfl, d99_9, rfl⟩) (xR_n))⟩
theorem d100_0 : decode prog_14_method_78_code 0 = .ok (.aload_n 0, 1) := by decide +kernel
theorem d100_1 : decode prog_14_method_78_code 1 = .ok (.iload_n 1, 1) := by decide +kernel
theorem d100_2 : decode prog_14_method_78_code 2 = .ok (.invokevirtual 417, 3) := by decide +kernel
theorem d100_5 : decode prog_14_method_78_code 5 = .ok (.ifCond .eq 31, 3) := by decide +kernel
theorem d100_36 : decode prog_14_method_78_code 36 = .ok (.iconst 0, 1) := by decide +kernel
theorem d100_37 : decode prog_14_method_78_code 37 = .ok (.ireturn, 1) := by decide +kernel
noncomputable def T_100 : Nat → Option xF := bn 2 (bn 1 (bl 0 (y_aload 0 1)) (bl 1 (y_iload 1 2))) (bn 5 (bl 2 (y_invV 12 120 2 5)) (bn 36 (bl 5 (y_if yc0 36 8)) (bl 36 (x_const 2147483648 37))))
set_option maxRecDepth 100000 in
set_option maxHeartbeats 4000000 in
theorem T_100_ok (G : State → Nat → Nat → Prop) : xTree PX G prog_14_method_78_code "CapitalCaseModel" false T_100 := (xT_n (xT_n (xT_l (yS (y_aload_eq _ _) (s_aload_n d100_0))) (xT_l (yS (y_iload_eq _ _) (s_iload_n d100_1)))) (xT_n (xT_l (yS (y_invV_eq _ _ _ _) (s_invV (T := TX12) d100_2 cal_120 rfl wd_1678 wd_1680 wd_82))) (xT_n (xT_l (yS (y_if_eq yc0_eq _ _) (s_ifeq d100_5 (by decide +kernel)))) (xT_l (s_iconst d100_36 (by decide +kernel))))))
set_option maxRecDepth 100000 in
set_option maxHeartbeats 4000000 in
theorem M_100 : xMeth PX 100 (T_100, 2, [(37, 2)]) := ⟨⟨"CapitalCaseModel", "clear", "(I)Z"⟩, prog_14_method_78_code, (some .boolean), rfl, by decide, fun G => T_100_ok G, xrt_ok (xR_c (Or.inr (Or.inl ⟨rfl, d100_37, rfl⟩)) (xR_n))⟩
theorem d101_0 : decode prog_14_method_48_code 0 = .ok (.iconst 0, 1) := by decide +kernel
theorem d101_1 : decode prog_14_method_48_code 1 = .ok (.istore_n 1, 1) := by decide +kernel
theorem d101_2 : decode prog_14_method_48_code 2 = .ok (.iload_n 1, 1) := by decide +kernel
theorem d101_3 : decode prog_14_method_48_code 3 = .ok (.sipush 390, 3) := by decide +kernel
theorem d101_6 : decode prog_14_method_48_code 6 = .ok (.if_icmp .ge 21, 3) := by decide +kernel
theorem d101_9 : decode prog_14_method_48_code 9 = .ok (.aload_n 0, 1) := by decide +kernel
theorem d101_10 : decode prog_14_method_48_code 10 = .ok (.getfield 116, 3) := by decide +kernel
theorem d101_13 : decode prog_14_method_48_code 13 = .ok (.iload_n 1, 1) := by decide +kernel
theorem d101_14 : decode prog_14_method_48_code 14 = .ok (.aload_n 0, 1) := by decide +kernel
theorem d101_15 : decode prog_14_method_48_code 15 = .ok (.getfield 113, 3) := by decide +kernel
theorem d101_18 : decode prog_14_method_48_code 18 = .ok (.iload_n 1, 1) := by decide +kernel
theorem d101_19 : decode prog_14_method_48_code 19 = .ok (.iaload, 1) := by decide +kernel
theorem d101_20 : decode prog_14_method_48_code 20 = .ok (.iastore, 1) := by decide +kernel
theorem d101_21 : decode prog_14_method_48_code 21 = .ok (.iinc 1 1, 3) := by decide +kernel
theorem d101_24 : decode prog_14_method_48_code 24 = .ok (.goto (-22), 3) := by decide +kernel
theorem d101_27 : decode prog_14_method_48_code 27 = .ok (.aload_n 0, 1) := by decide +kernel
theorem d101_28 : decode prog_14_method_48_code 28 = .ok (.aload_n 0, 1) := by decide +kernel
theorem d101_29 : decode prog_14_method_48_code 29 = .ok (.getfield 70, 3) := by decide +kernel
theorem d101_32 : decode prog_14_method_48_code 32 = .ok (.aload_n 0, 1) := by decide +kernel
theorem d101_33 : decode prog_14_method_48_code 33 = .ok (.getfield 230, 3) := by decide +kernel
theorem d101_36 : decode prog_14_method_48_code 36 = .ok (.iaload, 1) := by decide +kernel
theorem d101_37 : decode prog_14_method_48_code 37 = .ok (.putfield 328, 3) := by decide +kernel
theorem d101_40 : decode prog_14_method_48_code 40 = .ok (.aload_n 0, 1) := by decide +kernel
theorem d101_41 : decode prog_14_method_48_code 41 = .ok (.iconst 0, 1) := by decide +kernel
theorem d101_42 : decode prog_14_method_48_code 42 = .ok (.putfield 331, 3) := by decide +kernel
theorem d101_45 : decode prog_14_method_48_code 45 = .ok (.aload_n 0, 1) := by decide +kernel
theorem d101_46 : decode prog_14_method_48_code 46 = .ok (.iconst (-1), 1) := by decide +kernel
theorem d101_47 : decode prog_14_method_48_code 47 = .ok (.putfield 334, 3) := by decide +kernel
theorem d101_50 : decode prog_14_method_48_code 50 = .ok (.return_, 1) := by decide +kernel
noncomputable def T_101 : Nat → Option xF := bn 24 (bn 13 (bn 3 (bn 1 (bl 0 (x_const 2147483648 1)) (bn 2 (bl 1 (y_istore 1 2)) (bl 2 (y_iload 1 3)))) (bn 9 (bn 6 (bl 3 (x_const 2147484038 6)) (bl 6 (y_icmp yc3 27 9))) (bn 10 (bl 9 (y_aload 0 10)) (bl 10 (y_getf 12 0 13))))) (bn 18 (bn 14 (bl 13 (y_iload 1 14)) (bn 15 (bl 14 (y_aload 0 15)) (bl 15 (y_getf 12 1 18)))) (bn 20 (bn 19 (bl 18 (y_iload 1 19)) (bl 19 (y_iald 20))) (bn 21 (bl 20 (y_iast 21)) (bl 21 (y_iinc 1 2147483649 24)))))) (bn 37 (bn 29 (bn 27 (bl 24 (x_goto 2)) (bn 28 (bl 27 (y_aload 0 28)) (bl 28 (y_aload 0 29)))) (bn 33 (bn 32 (bl 29 (y_getf 12 5 32)) (bl 32 (y_aload 0 33))) (bn 36 (bl 33 (y_getf 12 2 36)) (bl 36 (y_iald 37))))) (bn 42 (bn 40 (bl 37 (y_putf 12 6 0 40)) (bn 41 (bl 40 (y_aload 0 41)) (bl 41 (x_const 2147483648 42)))) (bn 46 (bn 45 (bl 42 (y_putf 12 7 1 45)) (bl 45 (y_aload 0 46))) (bn 47 (bl 46 (x_const 2147483647 47)) (bl 47 (y_putf 12 8 0 50))))))
set_option maxRecDepth 100000 in
set_option maxHeartbeats 4000000 in
theorem T_101_ok (G : State → Nat → Nat → Prop) : xTree PX G prog_14_method_48_code "CapitalCaseModel" false T_101 := (xT_n (xT_n (xT_n (xT_n (xT_l (s_iconst d101_0 (by decide +kernel))) (xT_n (xT_l (yS (y_istore_eq _ _) (s_istore_n d101_1))) (xT_l (yS (y_iload_eq _ _) (s_iload_n d101_2))))) (xT_n (xT_n (xT_l (s_sipush d101_3 (by decide +kernel))) (xT_l (yS (y_icmp_eq yc3_eq _ _) (s_icmpge d101_6 (by decide +kernel))))) (xT_n (xT_l (yS (y_aload_eq _ _) (s_aload_n d101_9))) (xT_l (yS (y_getf_eq _ _ _) (s_getf (T := TX12) (N := 70) d101_10 rfl inX12 (by decide) wd_1332)))))) (xT_n (xT_n (xT_l (yS (y_iload_eq _ _) (s_iload_n d101_13))) (xT_n (xT_l (yS (y_aload_eq _ _) (s_aload_n d101_14))) (xT_l (yS (y_getf_eq _ _ _) (s_getf (T := TX12) (N := 70) d101_15 rfl inX12 (by decide) wd_1331))))) (xT_n (xT_n (xT_l (yS (y_iload_eq _ _) (s_iload_n d101_18))) (xT_l (yS (y_iald_eq _) (s_iald d101_19)))) (xT_n (xT_l (yS (y_iast_eq _) (s_iast d101_20))) (xT_l (yS (y_iinc_eq _ _ _) (s_iinc d101_21 (by decide +kernel)))))))) (xT_n (xT_n (xT_n (xT_l (s_goto d101_24 (by decide +kernel))) (xT_n (xT_l (yS (y_aload_eq _ _) (s_aload_n d101_27))) (xT_l (yS (y_aload_eq _ _) (s_aload_n d101_28))))) (xT_n (xT_n (xT_l (yS (y_getf_eq _ _ _) (s_getf (T := TX12) (N := 70) d101_29 rfl inX12 (by decide) wd_1312))) (xT_l (yS (y_aload_eq _ _) (s_aload_n d101_32)))) (xT_n (xT_l (yS (y_getf_eq _ _ _) (s_getf (T := TX12) (N := 70) d101_33 rfl inX12 (by decide) wd_1299))) (xT_l (yS (y_iald_eq _) (s_iald d101_36)))))) (xT_n (xT_n (xT_l (yS (y_putf_eq _ _ _ _) (s_putf (T := TX12) (N := 70) (ty := tyX12) d101_37 rfl inX12 tyX12_ok nmX12 (by decide) wd_1333 (Or.inl ⟨rfl, rfl⟩) rfl))) (xT_n (xT_l (yS (y_aload_eq _ _) (s_aload_n d101_40))) (xT_l (s_iconst d101_41 (by decide +kernel))))) (xT_n (xT_n (xT_l (yS (y_putf_eq _ _ _ _) (s_putf (T := TX12) (N := 70) (ty := tyX12) d101_42 rfl inX12 tyX12_ok nmX12 (by decide) wd_1334 (Or.inr (Or.inl ⟨rfl, rfl⟩)) rfl))) (xT_l (yS (y_aload_eq _ _) (s_aload_n d101_45)))) (xT_n (xT_l (s_iconst d101_46 (by decide +kernel))) (xT_l (yS (y_putf_eq _ _ _ _) (s_putf (T := TX12) (N := 70) (ty := tyX12) d101_47 rfl inX12 tyX12_ok nmX12 (by decide) wd_1335 (Or.inl ⟨rfl, rfl⟩) rfl))))))))
set_option maxRecDepth 100000 in
set_option maxHeartbeats 4000000 in
theorem M_101 : xMeth PX 101 (T_101, 2, [(50, 3)]) := ⟨⟨"CapitalCaseModel", "copies", "()V"⟩, prog_14_method_48_code, none, rfl, by decide, fun G => T_101_ok G, xrt_ok (xR_c (Or.inr (Or.inr (Or.inl ⟨rfl, d101_50, rfl⟩))) (xR_n))⟩
theorem d102_0 : decode prog_14_method_115_code 0 = .ok (.aload_n 0, 1) := by decide +kernel
theorem d102_1 : decode prog_14_method_115_code 1 = .ok (.invokevirtual 411, 3) := by decide +kernel
theorem d102_4 : decode prog_14_method_115_code 4 = .ok (.iload_n 1, 1) := by decide +kernel
theorem d102_5 : decode prog_14_method_115_code 5 = .ok (.tableswitch 304 0 15 #[79, 89, 99, 108, 117, 124, 131, 139, 148, 157, 162, 167, 172, 217, 230, 294], 79) := by decide +kernel
theorem d102_84 : decode prog_14_method_115_code 84 = .ok (.aload_n 0, 1) := by decide +kernel
theorem d102_85 : decode prog_14_method_115_code 85 = .ok (.getfield 43, 3) := by decide +kernel
theorem d102_88 : decode prog_14_method_115_code 88 = .ok (.aload_n 0, 1) := by decide +kernel
theorem d102_89 : decode prog_14_method_115_code 89 = .ok (.getfield 230, 3) := by decide +kernel
theorem d102_92 : decode prog_14_method_115_code 92 = .ok (.iaload, 1) := by decide +kernel
theorem d102_93 : decode prog_14_method_115_code 93 = .ok (.ireturn, 1) := by decide +kernel
theorem d102_94 : decode prog_14_method_115_code 94 = .ok (.aload_n 0, 1) := by decide +kernel
theorem d102_95 : decode prog_14_method_115_code 95 = .ok (.getfield 49, 3) := by decide +kernel
theorem d102_98 : decode prog_14_method_115_code 98 = .ok (.aload_n 0, 1) := by decide +kernel
theorem d102_99 : decode prog_14_method_115_code 99 = .ok (.getfield 230, 3) := by decide +kernel
theorem d102_102 : decode prog_14_method_115_code 102 = .ok (.iaload, 1) := by decide +kernel
theorem d102_103 : decode prog_14_method_115_code 103 = .ok (.ireturn, 1) := by decide +kernel
theorem d102_104 : decode prog_14_method_115_code 104 = .ok (.aload_n 0, 1) := by decide +kernel
theorem d102_105 : decode prog_14_method_115_code 105 = .ok (.getfield 116, 3) := by decide +kernel
theorem d102_108 : decode prog_14_method_115_code 108 = .ok (.sipush 386, 3) := by decide +kernel
theorem d102_111 : decode prog_14_method_115_code 111 = .ok (.iaload, 1) := by decide +kernel
theorem d102_112 : decode prog_14_method_115_code 112 = .ok (.ireturn, 1) := by decide +kernel
theorem d102_113 : decode prog_14_method_115_code 113 = .ok (.aload_n 0, 1) := by decide +kernel
theorem d102_114 : decode prog_14_method_115_code 114 = .ok (.getfield 116, 3) := by decide +kernel
theorem d102_117 : decode prog_14_method_115_code 117 = .ok (.sipush 387, 3) := by decide +kernel
theorem d102_120 : decode prog_14_method_115_code 120 = .ok (.iaload, 1) := by decide +kernel
theorem d102_121 : decode prog_14_method_115_code 121 = .ok (.ireturn, 1) := by decide +kernel
theorem d102_122 : decode prog_14_method_115_code 122 = .ok (.aload_n 0, 1) := by decide +kernel
theorem d102_123 : decode prog_14_method_115_code 123 = .ok (.iconst 1, 1) := by decide +kernel
theorem d102_124 : decode prog_14_method_115_code 124 = .ok (.iconst 2, 1) := by decide +kernel
theorem d102_125 : decode prog_14_method_115_code 125 = .ok (.invokevirtual 473, 3) := by decide +kernel
theorem d102_128 : decode prog_14_method_115_code 128 = .ok (.ireturn, 1) := by decide +kernel
theorem d102_129 : decode prog_14_method_115_code 129 = .ok (.aload_n 0, 1) := by decide +kernel
theorem d102_130 : decode prog_14_method_115_code 130 = .ok (.iconst 2, 1) := by decide +kernel
theorem d102_131 : decode prog_14_method_115_code 131 = .ok (.iconst 3, 1) := by decide +kernel
theorem d102_132 : decode prog_14_method_115_code 132 = .ok (.invokevirtual 473, 3) := by decide +kernel
theorem d102_135 : decode prog_14_method_115_code 135 = .ok (.ireturn, 1) := by decide +kernel
theorem d102_136 : decode prog_14_method_115_code 136 = .ok (.aload_n 0, 1) := by decide +kernel
theorem d102_137 : decode prog_14_method_115_code 137 = .ok (.iconst 0, 1) := by decide +kernel
theorem d102_138 : decode prog_14_method_115_code 138 = .ok (.bipush 40, 2) := by decide +kernel
theorem d102_140 : decode prog_14_method_115_code 140 = .ok (.invokevirtual 476, 3) := by decide +kernel
theorem d102_143 : decode prog_14_method_115_code 143 = .ok (.ireturn, 1) := by decide +kernel
theorem d102_144 : decode prog_14_method_115_code 144 = .ok (.aload_n 0, 1) := by decide +kernel
theorem d102_145 : decode prog_14_method_115_code 145 = .ok (.bipush 40, 2) := by decide +kernel
theorem d102_147 : decode prog_14_method_115_code 147 = .ok (.bipush 40, 2) := by decide +kernel
theorem d102_149 : decode prog_14_method_115_code 149 = .ok (.invokevirtual 476, 3) := by decide +kernel
theorem d102_152 : decode prog_14_method_115_code 152 = .ok (.ireturn, 1) := by decide +kernel
theorem d102_153 : decode prog_14_method_115_code 153 = .ok (.aload_n 0, 1) := by decide +kernel
theorem d102_154 : decode prog_14_method_115_code 154 = .ok (.getfield 116, 3) := by decide +kernel
theorem d102_157 : decode prog_14_method_115_code 157 = .ok (.sipush 388, 3) := by decide +kernel
theorem d102_160 : decode prog_14_method_115_code 160 = .ok (.iaload, 1) := by decide +kernel
theorem d102_161 : decode prog_14_method_115_code 161 = .ok (.ireturn, 1) := by decide +kernel
theorem d102_162 : decode prog_14_method_115_code 162 = .ok (.aload_n 0, 1) := by decide +kernel
theorem d102_163 : decode prog_14_method_115_code 163 = .ok (.getfield 163, 3) := by decide +kernel
theorem d102_166 : decode prog_14_method_115_code 166 = .ok (.ireturn, 1) := by decide +kernel
theorem d102_167 : decode prog_14_method_115_code 167 = .ok (.aload_n 0, 1) := by decide +kernel
theorem d102_168 : decode prog_14_method_115_code 168 = .ok (.getfield 248, 3) := by decide +kernel
theorem d102_171 : decode prog_14_method_115_code 171 = .ok (.ireturn, 1) := by decide +kernel
theorem d102_172 : decode prog_14_method_115_code 172 = .ok (.aload_n 0, 1) := by decide +kernel
theorem d102_173 : decode prog_14_method_115_code 173 = .ok (.getfield 251, 3) := by decide +kernel
theorem d102_176 : decode prog_14_method_115_code 176 = .ok (.ireturn, 1) := by decide +kernel
theorem d102_177 : decode prog_14_method_115_code 177 = .ok (.aload_n 0, 1) := by decide +kernel
theorem d102_178 : decode prog_14_method_115_code 178 = .ok (.getfield 143, 3) := by decide +kernel
theorem d102_181 : decode prog_14_method_115_code 181 = .ok (.iconst 0, 1) := by decide +kernel
theorem d102_182 : decode prog_14_method_115_code 182 = .ok (.baload, 1) := by decide +kernel
theorem d102_183 : decode prog_14_method_115_code 183 = .ok (.ifCond .eq 7, 3) := by decide +kernel
theorem d102_190 : decode prog_14_method_115_code 190 = .ok (.iconst 0, 1) := by decide +kernel
theorem d102_191 : decode prog_14_method_115_code 191 = .ok (.aload_n 0, 1) := by decide +kernel
theorem d102_192 : decode prog_14_method_115_code 192 = .ok (.getfield 143, 3) := by decide +kernel
theorem d102_195 : decode prog_14_method_115_code 195 = .ok (.iconst 1, 1) := by decide +kernel
theorem d102_196 : decode prog_14_method_115_code 196 = .ok (.baload, 1) := by decide +kernel
theorem d102_197 : decode prog_14_method_115_code 197 = .ok (.ifCond .eq 7, 3) := by decide +kernel
theorem d102_204 : decode prog_14_method_115_code 204 = .ok (.iconst 0, 1) := by decide +kernel
theorem d102_205 : decode prog_14_method_115_code 205 = .ok (.iadd, 1) := by decide +kernel
theorem d102_206 : decode prog_14_method_115_code 206 = .ok (.aload_n 0, 1) := by decide +kernel
theorem d102_207 : decode prog_14_method_115_code 207 = .ok (.getfield 143, 3) := by decide +kernel
theorem d102_210 : decode prog_14_method_115_code 210 = .ok (.iconst 2, 1) := by decide +kernel
theorem d102_211 : decode prog_14_method_115_code 211 = .ok (.baload, 1) := by decide +kernel
theorem d102_212 : decode prog_14_method_115_code 212 = .ok (.ifCond .eq 7, 3) := by decide +kernel
theorem d102_219 : decode prog_14_method_115_code 219 = .ok (.iconst 0, 1) := by decide +kernel
theorem d102_220 : decode prog_14_method_115_code 220 = .ok (.iadd, 1) := by decide +kernel
theorem d102_221 : decode prog_14_method_115_code 221 = .ok (.ireturn, 1) := by decide +kernel
theorem d102_222 : decode prog_14_method_115_code 222 = .ok (.aload_n 0, 1) := by decide +kernel
theorem d102_223 : decode prog_14_method_115_code 223 = .ok (.invokevirtual 395, 3) := by decide +kernel
theorem d102_226 : decode prog_14_method_115_code 226 = .ok (.ifCond .eq 7, 3) := by decide +kernel
theorem d102_233 : decode prog_14_method_115_code 233 = .ok (.iconst 0, 1) := by decide +kernel
theorem d102_234 : decode prog_14_method_115_code 234 = .ok (.ireturn, 1) := by decide +kernel
theorem d102_235 : decode prog_14_method_115_code 235 = .ok (.iconst 0, 1) := by decide +kernel
theorem d102_236 : decode prog_14_method_115_code 236 = .ok (.istore_n 2, 1) := by decide +kernel
theorem d102_237 : decode prog_14_method_115_code 237 = .ok (.aload_n 0, 1) := by decide +kernel
theorem d102_238 : decode prog_14_method_115_code 238 = .ok (.invokevirtual 436, 3) := by decide +kernel
theorem d102_241 : decode prog_14_method_115_code 241 = .ok (.istore_n 3, 1) := by decide +kernel
theorem d102_242 : decode prog_14_method_115_code 242 = .ok (.aload_n 0, 1) := by decide +kernel
theorem d102_243 : decode prog_14_method_115_code 243 = .ok (.invokevirtual 439, 3) := by decide +kernel
theorem d102_246 : decode prog_14_method_115_code 246 = .ok (.iconst 0, 1) := by decide +kernel
theorem d102_247 : decode prog_14_method_115_code 247 = .ok (.istore 4, 2) := by decide +kernel
theorem d102_249 : decode prog_14_method_115_code 249 = .ok (.iload 4, 2) := by decide +kernel
theorem d102_251 : decode prog_14_method_115_code 251 = .ok (.aload_n 0, 1) := by decide +kernel
theorem d102_252 : decode prog_14_method_115_code 252 = .ok (.getfield 49, 3) := by decide +kernel
theorem d102_255 : decode prog_14_method_115_code 255 = .ok (.aload_n 0, 1) := by decide +kernel
theorem d102_256 : decode prog_14_method_115_code 256 = .ok (.getfield 230, 3) := by decide +kernel
theorem d102_259 : decode prog_14_method_115_code 259 = .ok (.iaload, 1) := by decide +kernel
theorem d102_260 : decode prog_14_method_115_code 260 = .ok (.if_icmp .ge 37, 3) := by decide +kernel
theorem d102_297 : decode prog_14_method_115_code 297 = .ok (.iload_n 2, 1) := by decide +kernel
theorem d102_298 : decode prog_14_method_115_code 298 = .ok (.ireturn, 1) := by decide +kernel
theorem d102_299 : decode prog_14_method_115_code 299 = .ok (.aload_n 0, 1) := by decide +kernel
theorem d102_300 : decode prog_14_method_115_code 300 = .ok (.bipush 120, 2) := by decide +kernel
theorem d102_302 : decode prog_14_method_115_code 302 = .ok (.sipush 200, 3) := by decide +kernel
theorem d102_305 : decode prog_14_method_115_code 305 = .ok (.invokevirtual 476, 3) := by decide +kernel
theorem d102_308 : decode prog_14_method_115_code 308 = .ok (.ireturn, 1) := by decide +kernel
theorem d102_309 : decode prog_14_method_115_code 309 = .ok (.iconst (-1), 1) := by decide +kernel
theorem d102_310 : decode prog_14_method_115_code 310 = .ok (.ireturn, 1) := by decide +kernel
noncomputable def T_102 : Nat → Option xF := bn 173 (bn 123 (bn 98 (bn 85 (bn 4 (bn 1 (bl 0 (y_aload 0 1)) (bl 1 (y_invV 12 101 1 4))) (bn 5 (bl 4 (y_iload 1 5)) (bn 84 (bl 5 (x_tsw 2147483648 [84, 94, 104, 113, 122, 129, 136, 144, 153, 162, 167, 172, 177, 222, 235, 299] 309)) (bl 84 (y_aload 0 85))))) (bn 92 (bn 88 (bl 85 (y_getf 12 3 88)) (bn 89 (bl 88 (y_aload 0 89)) (bl 89 (y_getf 12 2 92)))) (bn 94 (bl 92 (y_iald 93)) (bn 95 (bl 94 (y_aload 0 95)) (bl 95 (y_getf 12 4 98)))))) (bn 111 (bn 104 (bn 99 (bl 98 (y_aload 0 99)) (bn 102 (bl 99 (y_getf 12 2 102)) (bl 102 (y_iald 103)))) (bn 105 (bl 104 (y_aload 0 105)) (bn 108 (bl 105 (y_getf 12 0 108)) (bl 108 (x_const 2147484034 111))))) (bn 117 (bn 113 (bl 111 (y_iald 112)) (bn 114 (bl 113 (y_aload 0 114)) (bl 114 (y_getf 12 0 117)))) (bn 120 (bl 117 (x_const 2147484035 120)) (bn 122 (bl 120 (y_iald 121)) (bl 122 (y_aload 0 123))))))) (bn 145 (bn 132 (bn 129 (bn 124 (bl 123 (x_const 2147483649 124)) (bn 125 (bl 124 (x_const 2147483650 125)) (bl 125 (y_invV 12 147 3 128)))) (bn 130 (bl 129 (y_aload 0 130)) (bn 131 (bl 130 (x_const 2147483650 131)) (bl 131 (x_const 2147483651 132))))) (bn 138 (bn 136 (bl 132 (y_invV 12 147 3 135)) (bn 137 (bl 136 (y_aload 0 137)) (bl 137 (x_const 2147483648 138)))) (bn 140 (bl 138 (x_const 2147483688 140)) (bn 144 (bl 140 (y_invV 12 139 3 143)) (bl 144 (y_aload 0 145)))))) (bn 160 (bn 153 (bn 147 (bl 145 (x_const 2147483688 147)) (bn 149 (bl 147 (x_const 2147483688 149)) (bl 149 (y_invV 12 139 3 152)))) (bn 154 (bl 153 (y_aload 0 154)) (bn 157 (bl 154 (y_getf 12 0 157)) (bl 157 (x_const 2147484036 160))))) (bn 167 (bn 162 (bl 160 (y_iald 161)) (bn 163 (bl 162 (y_aload 0 163)) (bl 163 (y_getf 12 12 166)))) (bn 168 (bl 167 (y_aload 0 168)) (bn 172 (bl 168 (y_getf 12 10 171)) (bl 172 (y_aload 0 173)))))))) (bn 226 (bn 197 (bn 183 (bn 178 (bn 177 (bl 173 (y_getf 12 64 176)) (bl 177 (y_aload 0 178))) (bn 181 (bl 178 (y_getf 12 68 181)) (bn 182 (bl 181 (x_const 2147483648 182)) (bl 182 (x_bald 183))))) (bn 192 (bn 190 (bl 183 (y_if yc0 190 186)) (bn 191 (bl 190 (x_const 2147483648 191)) (bl 191 (y_aload 0 192)))) (bn 195 (bl 192 (y_getf 12 68 195)) (bn 196 (bl 195 (x_const 2147483649 196)) (bl 196 (x_bald 197)))))) (bn 211 (bn 206 (bn 204 (bl 197 (y_if yc0 204 200)) (bn 205 (bl 204 (x_const 2147483648 205)) (bl 205 (y_bin yadd 206)))) (bn 207 (bl 206 (y_aload 0 207)) (bn 210 (bl 207 (y_getf 12 68 210)) (bl 210 (x_const 2147483650 211))))) (bn 220 (bn 212 (bl 211 (x_bald 212)) (bn 219 (bl 212 (y_if yc0 219 215)) (bl 219 (x_const 2147483648 220)))) (bn 222 (bl 220 (y_bin yadd 221)) (bn 223 (bl 222 (y_aload 0 223)) (bl 223 (y_invV 12 90 1 226))))))) (bn 251 (bn 241 (bn 236 (bn 233 (bl 226 (y_if yc0 233 229)) (bn 235 (bl 233 (x_const 2147483648 234)) (bl 235 (x_const 2147483648 236)))) (bn 237 (bl 236 (y_istore 2 237)) (bn 238 (bl 237 (y_aload 0 238)) (bl 238 (y_invV 12 128 1 241))))) (bn 246 (bn 242 (bl 241 (y_istore 3 242)) (bn 243 (bl 242 (y_aload 0 243)) (bl 243 (y_invV 12 121 1 246)))) (bn 247 (bl 246 (x_const 2147483648 247)) (bn 249 (bl 247 (y_istore 4 249)) (bl 249 (y_iload 4 251)))))) (bn 297 (bn 256 (bn 252 (bl 251 (y_aload 0 252)) (bn 255 (bl 252 (y_getf 12 4 255)) (bl 255 (y_aload 0 256)))) (bn 259 (bl 256 (y_getf 12 2 259)) (bn 260 (bl 259 (y_iald 260)) (bl 260 (y_icmp yc3 297 263))))) (bn 302 (bn 299 (bl 297 (y_iload 2 298)) (bn 300 (bl 299 (y_aload 0 300)) (bl 300 (x_const 2147483768 302)))) (bn 305 (bl 302 (x_const 2147483848 305)) (bn 309 (bl 305 (y_invV 12 139 3 308)) (bl 309 (x_const 2147483647 310))))))))
set_option maxRecDepth 100000 in
set_option maxHeartbeats 4000000 in
theorem T_102_ok (G : State → Nat → Nat → Prop) : xTree PX G prog_14_method_115_code "CapitalCaseModel" false T_102 := (xT_n (xT_n (xT_n (xT_n (xT_n (xT_n (xT_l (yS (y_aload_eq _ _) (s_aload_n d102_0))) (xT_l (yS (y_invV_eq _ _ _ _) (s_invV (T := TX12) d102_1 cal_101 rfl wd_1635 wd_1637 wd_73)))) (xT_n (xT_l (yS (y_iload_eq _ _) (s_iload_n d102_4))) (xT_n (xT_l (s_tsw d102_5 (by decide +kernel) (by decide +kernel) (by decide +kernel) (xTsw (by decide +kernel) (by decide +kernel)))) (xT_l (yS (y_aload_eq _ _) (s_aload_n d102_84)))))) (xT_n (xT_n (xT_l (yS (y_getf_eq _ _ _) (s_getf (T := TX12) (N := 70) d102_85 rfl inX12 (by decide) wd_1303))) (xT_n (xT_l (yS (y_aload_eq _ _) (s_aload_n d102_88))) (xT_l (yS (y_getf_eq _ _ _) (s_getf (T := TX12) (N := 70) d102_89 rfl inX12 (by decide) wd_1299))))) (xT_n (xT_l (yS (y_iald_eq _) (s_iald d102_92))) (xT_n (xT_l (yS (y_aload_eq _ _) (s_aload_n d102_94))) (xT_l (yS (y_getf_eq _ _ _) (s_getf (T := TX12) (N := 70) d102_95 rfl inX12 (by decide) wd_1305))))))) (xT_n (xT_n (xT_n (xT_l (yS (y_aload_eq _ _) (s_aload_n d102_98))) (xT_n (xT_l (yS (y_getf_eq _ _ _) (s_getf (T := TX12) (N := 70) d102_99 rfl inX12 (by decide) wd_1299))) (xT_l (yS (y_iald_eq _) (s_iald d102_102))))) (xT_n (xT_l (yS (y_aload_eq _ _) (s_aload_n d102_104))) (xT_n (xT_l (yS (y_getf_eq _ _ _) (s_getf (T := TX12) (N := 70) d102_105 rfl inX12 (by decide) wd_1332))) (xT_l (s_sipush d102_108 (by decide +kernel)))))) (xT_n (xT_n (xT_l (yS (y_iald_eq _) (s_iald d102_111))) (xT_n (xT_l (yS (y_aload_eq _ _) (s_aload_n d102_113))) (xT_l (yS (y_getf_eq _ _ _) (s_getf (T := TX12) (N := 70) d102_114 rfl inX12 (by decide) wd_1332))))) (xT_n (xT_l (s_sipush d102_117 (by decide +kernel))) (xT_n (xT_l (yS (y_iald_eq _) (s_iald d102_120))) (xT_l (yS (y_aload_eq _ _) (s_aload_n d102_122)))))))) (xT_n (xT_n (xT_n (xT_n (xT_l (s_iconst d102_123 (by decide +kernel))) (xT_n (xT_l (s_iconst d102_124 (by decide +kernel))) (xT_l (yS (y_invV_eq _ _ _ _) (s_invV (T := TX12) d102_125 cal_147 rfl wd_1909 wd_1911 wd_108))))) (xT_n (xT_l (yS (y_aload_eq _ _) (s_aload_n d102_129))) (xT_n (xT_l (s_iconst d102_130 (by decide +kernel))) (xT_l (s_iconst d102_131 (by decide +kernel)))))) (xT_n (xT_n (xT_l (yS (y_invV_eq _ _ _ _) (s_invV (T := TX12) d102_132 cal_147 rfl wd_1909 wd_1911 wd_108))) (xT_n (xT_l (yS (y_aload_eq _ _) (s_aload_n d102_136))) (xT_l (s_iconst d102_137 (by decide +kernel))))) (xT_n (xT_l (s_bipush d102_138 (by decide +kernel))) (xT_n (xT_l (yS (y_invV_eq _ _ _ _) (s_invV (T := TX12) d102_140 cal_139 rfl wd_1913 wd_1915 wd_109))) (xT_l (yS (y_aload_eq _ _) (s_aload_n d102_144))))))) (xT_n (xT_n (xT_n (xT_l (s_bipush d102_145 (by decide +kernel))) (xT_n (xT_l (s_bipush d102_147 (by decide +kernel))) (xT_l (yS (y_invV_eq _ _ _ _) (s_invV (T := TX12) d102_149 cal_139 rfl wd_1913 wd_1915 wd_109))))) (xT_n (xT_l (yS (y_aload_eq _ _) (s_aload_n d102_153))) (xT_n (xT_l (yS (y_getf_eq _ _ _) (s_getf (T := TX12) (N := 70) d102_154 rfl inX12 (by decide) wd_1332))) (xT_l (s_sipush d102_157 (by decide +kernel)))))) (xT_n (xT_n (xT_l (yS (y_iald_eq _) (s_iald d102_160))) (xT_n (xT_l (yS (y_aload_eq _ _) (s_aload_n d102_162))) (xT_l (yS (y_getf_eq _ _ _) (s_getf (T := TX12) (N := 70) d102_163 rfl inX12 (by decide) wd_1283))))) (xT_n (xT_l (yS (y_aload_eq _ _) (s_aload_n d102_167))) (xT_n (xT_l (yS (y_getf_eq _ _ _) (s_getf (T := TX12) (N := 70) d102_168 rfl inX12 (by decide) wd_1340))) (xT_l (yS (y_aload_eq _ _) (s_aload_n d102_172))))))))) (xT_n (xT_n (xT_n (xT_n (xT_n (xT_l (yS (y_getf_eq _ _ _) (s_getf (T := TX12) (N := 70) d102_173 rfl inX12 (by decide) wd_1345))) (xT_l (yS (y_aload_eq _ _) (s_aload_n d102_177)))) (xT_n (xT_l (yS (y_getf_eq _ _ _) (s_getf (T := TX12) (N := 70) d102_178 rfl inX12 (by decide) wd_1349))) (xT_n (xT_l (s_iconst d102_181 (by decide +kernel))) (xT_l (s_bald d102_182))))) (xT_n (xT_n (xT_l (yS (y_if_eq yc0_eq _ _) (s_ifeq d102_183 (by decide +kernel)))) (xT_n (xT_l (s_iconst d102_190 (by decide +kernel))) (xT_l (yS (y_aload_eq _ _) (s_aload_n d102_191))))) (xT_n (xT_l (yS (y_getf_eq _ _ _) (s_getf (T := TX12) (N := 70) d102_192 rfl inX12 (by decide) wd_1349))) (xT_n (xT_l (s_iconst d102_195 (by decide +kernel))) (xT_l (s_bald d102_196)))))) (xT_n (xT_n (xT_n (xT_l (yS (y_if_eq yc0_eq _ _) (s_ifeq d102_197 (by decide +kernel)))) (xT_n (xT_l (s_iconst d102_204 (by decide +kernel))) (xT_l (yS (y_bin_eq _ _) (s_iadd d102_205))))) (xT_n (xT_l (yS (y_aload_eq _ _) (s_aload_n d102_206))) (xT_n (xT_l (yS (y_getf_eq _ _ _) (s_getf (T := TX12) (N := 70) d102_207 rfl inX12 (by decide) wd_1349))) (xT_l (s_iconst d102_210 (by decide +kernel)))))) (xT_n (xT_n (xT_l (s_bald d102_211)) (xT_n (xT_l (yS (y_if_eq yc0_eq _ _) (s_ifeq d102_212 (by decide +kernel)))) (xT_l (s_iconst d102_219 (by decide +kernel))))) (xT_n (xT_l (yS (y_bin_eq _ _) (s_iadd d102_220))) (xT_n (xT_l (yS (y_aload_eq _ _) (s_aload_n d102_222))) (xT_l (yS (y_invV_eq _ _ _ _) (s_invV (T := TX12) d102_223 cal_90 rfl wd_1766 wd_1768 wd_96)))))))) (xT_n (xT_n (xT_n (xT_n (xT_l (yS (y_if_eq yc0_eq _ _) (s_ifeq d102_226 (by decide +kernel)))) (xT_n (xT_l (s_iconst d102_233 (by decide +kernel))) (xT_l (s_iconst d102_235 (by decide +kernel))))) (xT_n (xT_l (yS (y_istore_eq _ _) (s_istore_n d102_236))) (xT_n (xT_l (yS (y_aload_eq _ _) (s_aload_n d102_237))) (xT_l (yS (y_invV_eq _ _ _ _) (s_invV (T := TX12) d102_238 cal_128 rfl wd_1798 wd_1800 wd_100)))))) (xT_n (xT_n (xT_l (yS (y_istore_eq _ _) (s_istore_n d102_241))) (xT_n (xT_l (yS (y_aload_eq _ _) (s_aload_n d102_242))) (xT_l (yS (y_invV_eq _ _ _ _) (s_invV (T := TX12) d102_243 cal_121 rfl wd_1802 wd_1804 wd_101))))) (xT_n (xT_l (s_iconst d102_246 (by decide +kernel))) (xT_n (xT_l (yS (y_istore_eq _ _) (s_istore d102_247))) (xT_l (yS (y_iload_eq _ _) (s_iload d102_249))))))) (xT_n (xT_n (xT_n (xT_l (yS (y_aload_eq _ _) (s_aload_n d102_251))) (xT_n (xT_l (yS (y_getf_eq _ _ _) (s_getf (T := TX12) (N := 70) d102_252 rfl inX12 (by decide) wd_1305))) (xT_l (yS (y_aload_eq _ _) (s_aload_n d102_255))))) (xT_n (xT_l (yS (y_getf_eq _ _ _) (s_getf (T := TX12) (N := 70) d102_256 rfl inX12 (by decide) wd_1299))) (xT_n (xT_l (yS (y_iald_eq _) (s_iald d102_259))) (xT_l (yS (y_icmp_eq yc3_eq _ _) (s_icmpge d102_260 (by decide +kernel))))))) (xT_n (xT_n (xT_l (yS (y_iload_eq _ _) (s_iload_n d102_297))) (xT_n (xT_l (yS (y_aload_eq _ _) (s_aload_n d102_299))) (xT_l (s_bipush d102_300 (by decide +kernel))))) (xT_n (xT_l (s_sipush d102_302 (by decide +kernel))) (xT_n (xT_l (yS (y_invV_eq _ _ _ _) (s_invV (T := TX12) d102_305 cal_139 rfl wd_1913 wd_1915 wd_109))) (xT_l (s_iconst d102_309 (by decide +kernel))))))))))
set_option maxRecDepth 100000 in
set_option maxHeartbeats 4000000 in
theorem M_102 : xMeth PX 102 (T_102, 5, [(93, 1), (103, 1), (112, 1), (121, 1), (128, 1), (135, 1), (143, 1), (152, 1), (161, 1), (166, 1), (171, 1), (176, 1), (221, 1), (234, 1), (298, 1), (308, 1), (310, 1)]) := ⟨⟨"CapitalCaseModel", "count", "(I)I"⟩, prog_14_method_115_code, (some .int), rfl, by decide, fun G => T_102_ok G, xrt_ok (xR_c (Or.inl ⟨rfl, d102_93, rfl⟩) (xR_c (Or.inl ⟨rfl, d102_103, rfl⟩) (xR_c (Or.inl ⟨rfl, d102_112, rfl⟩) (xR_c (Or.inl ⟨rfl, d102_121, rfl⟩) (xR_c (Or.inl ⟨rfl, d102_128, rfl⟩) (xR_c (Or.inl ⟨rfl, d102_135, rfl⟩) (xR_c (Or.inl ⟨rfl, d102_143, rfl⟩) (xR_c (Or.inl ⟨rfl, d102_152, rfl⟩) (xR_c (Or.inl ⟨rfl, d102_161, rfl⟩) (xR_c (Or.inl ⟨rfl, d102_166, rfl⟩) (xR_c (Or.inl ⟨rfl, d102_171, rfl⟩) (xR_c (Or.inl ⟨rfl, d102_176, rfl⟩) (xR_c (Or.inl ⟨rfl, d102_221, rfl⟩) (xR_c (Or.inl ⟨rfl, d102_234, rfl⟩) (xR_c (Or.inl ⟨rfl, d102_298, rfl⟩) (xR_c (Or.inl ⟨rfl, d102_308, rfl⟩) (xR_c (Or.inl ⟨rfl, d102_310, rfl⟩) (xR_n))))))))))))))))))⟩
theorem d103_0 : decode prog_14_method_12_code 0 = .ok (.aload_n 0, 1) := by decide +kernel
theorem d103_1 : decode prog_14_method_12_code 1 = .ok (.iconst 0, 1) := by decide +kernel
theorem d103_2 : decode prog_14_method_12_code 2 = .ok (.putfield 178, 3) := by decide +kernel
theorem d103_5 : decode prog_14_method_12_code 5 = .ok (.iconst 0, 1) := by decide +kernel
theorem d103_6 : decode prog_14_method_12_code 6 = .ok (.istore_n 1, 1) := by decide +kernel
theorem d103_7 : decode prog_14_method_12_code 7 = .ok (.aload_n 0, 1) := by decide +kernel
theorem d103_8 : decode prog_14_method_12_code 8 = .ok (.getfield 178, 3) := by decide +kernel
theorem d103_11 : decode prog_14_method_12_code 11 = .ok (.sipush 400, 3) := by decide +kernel
theorem d103_14 : decode prog_14_method_12_code 14 = .ok (.if_icmp .gt 280, 3) := by decide +kernel
theorem d103_17 : decode prog_14_method_12_code 17 = .ok (.aload_n 0, 1) := by decide +kernel
theorem d103_18 : decode prog_14_method_12_code 18 = .ok (.iload_n 1, 1) := by decide +kernel
theorem d103_19 : decode prog_14_method_12_code 19 = .ok (.invokevirtual 181, 3) := by decide +kernel
theorem d103_22 : decode prog_14_method_12_code 22 = .ok (.istore_n 2, 1) := by decide +kernel
theorem d103_23 : decode prog_14_method_12_code 23 = .ok (.iload_n 1, 1) := by decide +kernel
theorem d103_24 : decode prog_14_method_12_code 24 = .ok (.aload_n 0, 1) := by decide +kernel
theorem d103_25 : decode prog_14_method_12_code 25 = .ok (.getfield 169, 3) := by decide +kernel
theorem d103_28 : decode prog_14_method_12_code 28 = .ok (.if_icmp .lt 15, 3) := by decide +kernel
theorem d103_31 : decode prog_14_method_12_code 31 = .ok (.aload_n 0, 1) := by decide +kernel
theorem d103_32 : decode prog_14_method_12_code 32 = .ok (.iconst 0, 1) := by decide +kernel
theorem d103_33 : decode prog_14_method_12_code 33 = .ok (.aload_n 0, 1) := by decide +kernel
theorem d103_34 : decode prog_14_method_12_code 34 = .ok (.getfield 169, 3) := by decide +kernel
theorem d103_37 : decode prog_14_method_12_code 37 = .ok (.iconst 0, 1) := by decide +kernel
theorem d103_38 : decode prog_14_method_12_code 38 = .ok (.lconst 0, 1) := by decide +kernel
theorem d103_39 : decode prog_14_method_12_code 39 = .ok (.invokevirtual 185, 3) := by decide +kernel
theorem d103_42 : decode prog_14_method_12_code 42 = .ok (.return_, 1) := by decide +kernel
noncomputable def T_103 : Nat → Option xF := bn 22 (bn 8 (bn 5 (bn 1 (bl 0 (y_aload 0 1)) (bn 2 (bl 1 (x_const 2147483648 2)) (bl 2 (y_putf 12 24 0 5)))) (bn 6 (bl 5 (x_const 2147483648 6)) (bn 7 (bl 6 (y_istore 1 7)) (bl 7 (y_aload 0 8))))) (bn 17 (bn 11 (bl 8 (y_getf 12 24 11)) (bn 14 (bl 11 (x_const 2147484048 14)) (bl 14 (y_icmp yc4 294 17)))) (bn 18 (bl 17 (y_aload 0 18)) (bn 19 (bl 18 (y_iload 1 19)) (bl 19 (y_invV 12 98 2 22)))))) (bn 32 (bn 25 (bn 23 (bl 22 (y_istore 2 23)) (bn 24 (bl 23 (y_iload 1 24)) (bl 24 (y_aload 0 25)))) (bn 28 (bl 25 (y_getf 12 18 28)) (bn 31 (bl 28 (y_icmp yc2 43 31)) (bl 31 (y_aload 0 32))))) (bn 37 (bn 33 (bl 32 (x_const 2147483648 33)) (bn 34 (bl 33 (y_aload 0 34)) (bl 34 (y_getf 12 18 37)))) (bn 38 (bl 37 (x_const 2147483648 38)) (bn 39 (bl 38 (x_lconst 39)) (bl 39 (y_invV 12 143 5 42))))))
set_option maxRecDepth 100000 in
set_option maxHeartbeats 4000000 in
theorem T_103_ok (G : State → Nat → Nat → Prop) : xTree PX G prog_14_method_12_code "CapitalCaseModel" false T_103 := (xT_n (xT_n (xT_n (xT_n (xT_l (yS (y_aload_eq _ _) (s_aload_n d103_0))) (xT_n (xT_l (s_iconst d103_1 (by decide +kernel))) (xT_l (yS (y_putf_eq _ _ _ _) (s_putf (T := TX12) (N := 70) (ty := tyX12) d103_2 rfl inX12 tyX12_ok nmX12 (by decide) wd_1291 (Or.inl ⟨rfl, rfl⟩) rfl))))) (xT_n (xT_l (s_iconst d103_5 (by decide +kernel))) (xT_n (xT_l (yS (y_istore_eq _ _) (s_istore_n d103_6))) (xT_l (yS (y_aload_eq _ _) (s_aload_n d103_7)))))) (xT_n (xT_n (xT_l (yS (y_getf_eq _ _ _) (s_getf (T := TX12) (N := 70) d103_8 rfl inX12 (by decide) wd_1291))) (xT_n (xT_l (s_sipush d103_11 (by decide +kernel))) (xT_l (yS (y_icmp_eq yc4_eq _ _) (s_icmpgt d103_14 (by decide +kernel)))))) (xT_n (xT_l (yS (y_aload_eq _ _) (s_aload_n d103_17))) (xT_n (xT_l (yS (y_iload_eq _ _) (s_iload_n d103_18))) (xT_l (yS (y_invV_eq _ _ _ _) (s_invV (T := TX12) d103_19 cal_98 rfl wd_1513 wd_1515 wd_49))))))) (xT_n (xT_n (xT_n (xT_l (yS (y_istore_eq _ _) (s_istore_n d103_22))) (xT_n (xT_l (yS (y_iload_eq _ _) (s_iload_n d103_23))) (xT_l (yS (y_aload_eq _ _) (s_aload_n d103_24))))) (xT_n (xT_l (yS (y_getf_eq _ _ _) (s_getf (T := TX12) (N := 70) d103_25 rfl inX12 (by decide) wd_1285))) (xT_n (xT_l (yS (y_icmp_eq yc2_eq _ _) (s_icmplt d103_28 (by decide +kernel)))) (xT_l (yS (y_aload_eq _ _) (s_aload_n d103_31)))))) (xT_n (xT_n (xT_l (s_iconst d103_32 (by decide +kernel))) (xT_n (xT_l (yS (y_aload_eq _ _) (s_aload_n d103_33))) (xT_l (yS (y_getf_eq _ _ _) (s_getf (T := TX12) (N := 70) d103_34 rfl inX12 (by decide) wd_1285))))) (xT_n (xT_l (s_iconst d103_37 (by decide +kernel))) (xT_n (xT_l (s_lconst d103_38)) (xT_l (yS (y_invV_eq _ _ _ _) (s_invV (T := TX12) d103_39 cal_143 rfl wd_1517 wd_1519 wd_50))))))))
set_option maxRecDepth 100000 in
set_option maxHeartbeats 4000000 in
theorem M_103 : xMeth PX 103 (T_103, 8, [(42, 3)]) := ⟨⟨"CapitalCaseModel", "cut", "()V"⟩, prog_14_method_12_code, none, rfl, by decide, fun G => T_103_ok G, xrt_ok (xR_c (Or.inr (Or.inr (Or.inl ⟨rfl, d103_42, rfl⟩))) (xR_n))⟩
theorem d104_0 : decode prog_14_method_70_code 0 = .ok (.iconst 0, 1) := by decide +kernel
theorem d104_1 : decode prog_14_method_70_code 1 = .ok (.istore_n 1, 1) := by decide +kernel
theorem d104_2 : decode prog_14_method_70_code 2 = .ok (.iload_n 1, 1) := by decide +kernel
theorem d104_3 : decode prog_14_method_70_code 3 = .ok (.aload_n 0, 1) := by decide +kernel
theorem d104_4 : decode prog_14_method_70_code 4 = .ok (.getfield 49, 3) := by decide +kernel
theorem d104_7 : decode prog_14_method_70_code 7 = .ok (.aload_n 0, 1) := by decide +kernel
theorem d104_8 : decode prog_14_method_70_code 8 = .ok (.getfield 230, 3) := by decide +kernel
theorem d104_11 : decode prog_14_method_70_code 11 = .ok (.iaload, 1) := by decide +kernel
theorem d104_12 : decode prog_14_method_70_code 12 = .ok (.if_icmp .ge 20, 3) := by decide +kernel
theorem d104_32 : decode prog_14_method_70_code 32 = .ok (.iconst 0, 1) := by decide +kernel
theorem d104_33 : decode prog_14_method_70_code 33 = .ok (.istore_n 1, 1) := by decide +kernel
theorem d104_34 : decode prog_14_method_70_code 34 = .ok (.iload_n 1, 1) := by decide +kernel
theorem d104_35 : decode prog_14_method_70_code 35 = .ok (.bipush 8, 2) := by decide +kernel
theorem d104_37 : decode prog_14_method_70_code 37 = .ok (.aload_n 0, 1) := by decide +kernel
theorem d104_38 : decode prog_14_method_70_code 38 = .ok (.getfield 43, 3) := by decide +kernel
theorem d104_41 : decode prog_14_method_70_code 41 = .ok (.aload_n 0, 1) := by decide +kernel
theorem d104_42 : decode prog_14_method_70_code 42 = .ok (.getfield 230, 3) := by decide +kernel
theorem d104_45 : decode prog_14_method_70_code 45 = .ok (.iaload, 1) := by decide +kernel
theorem d104_46 : decode prog_14_method_70_code 46 = .ok (.imul, 1) := by decide +kernel
theorem d104_47 : decode prog_14_method_70_code 47 = .ok (.if_icmp .ge 27, 3) := by decide +kernel
theorem d104_74 : decode prog_14_method_70_code 74 = .ok (.iconst 0, 1) := by decide +kernel
theorem d104_75 : decode prog_14_method_70_code 75 = .ok (.istore_n 1, 1) := by decide +kernel
theorem d104_76 : decode prog_14_method_70_code 76 = .ok (.iload_n 1, 1) := by decide +kernel
theorem d104_77 : decode prog_14_method_70_code 77 = .ok (.aload_n 0, 1) := by decide +kernel
theorem d104_78 : decode prog_14_method_70_code 78 = .ok (.getfield 49, 3) := by decide +kernel
theorem d104_81 : decode prog_14_method_70_code 81 = .ok (.aload_n 0, 1) := by decide +kernel
theorem d104_82 : decode prog_14_method_70_code 82 = .ok (.getfield 230, 3) := by decide +kernel
theorem d104_85 : decode prog_14_method_70_code 85 = .ok (.iaload, 1) := by decide +kernel
theorem d104_86 : decode prog_14_method_70_code 86 = .ok (.if_icmp .ge 54, 3) := by decide +kernel
theorem d104_140 : decode prog_14_method_70_code 140 = .ok (.iconst 0, 1) := by decide +kernel
theorem d104_141 : decode prog_14_method_70_code 141 = .ok (.istore_n 1, 1) := by decide +kernel
theorem d104_142 : decode prog_14_method_70_code 142 = .ok (.iload_n 1, 1) := by decide +kernel
theorem d104_143 : decode prog_14_method_70_code 143 = .ok (.bipush 8, 2) := by decide +kernel
theorem d104_145 : decode prog_14_method_70_code 145 = .ok (.aload_n 0, 1) := by decide +kernel
theorem d104_146 : decode prog_14_method_70_code 146 = .ok (.getfield 43, 3) := by decide +kernel
theorem d104_149 : decode prog_14_method_70_code 149 = .ok (.aload_n 0, 1) := by decide +kernel
theorem d104_150 : decode prog_14_method_70_code 150 = .ok (.getfield 230, 3) := by decide +kernel
theorem d104_153 : decode prog_14_method_70_code 153 = .ok (.iaload, 1) := by decide +kernel
theorem d104_154 : decode prog_14_method_70_code 154 = .ok (.imul, 1) := by decide +kernel
theorem d104_155 : decode prog_14_method_70_code 155 = .ok (.if_icmp .ge 14, 3) := by decide +kernel
theorem d104_169 : decode prog_14_method_70_code 169 = .ok (.aload_n 0, 1) := by decide +kernel
theorem d104_170 : decode prog_14_method_70_code 170 = .ok (.getfield 331, 3) := by decide +kernel
theorem d104_173 : decode prog_14_method_70_code 173 = .ok (.ifCond .ne 14, 3) := by decide +kernel
theorem d104_176 : decode prog_14_method_70_code 176 = .ok (.aload_n 0, 1) := by decide +kernel
theorem d104_177 : decode prog_14_method_70_code 177 = .ok (.invokevirtual 395, 3) := by decide +kernel
theorem d104_180 : decode prog_14_method_70_code 180 = .ok (.ifCond .eq 7, 3) := by decide +kernel
theorem d104_187 : decode prog_14_method_70_code 187 = .ok (.aload_n 0, 1) := by decide +kernel
theorem d104_188 : decode prog_14_method_70_code 188 = .ok (.getfield 116, 3) := by decide +kernel
theorem d104_191 : decode prog_14_method_70_code 191 = .ok (.sipush 386, 3) := by decide +kernel
theorem d104_194 : decode prog_14_method_70_code 194 = .ok (.dup2, 1) := by decide +kernel
theorem d104_195 : decode prog_14_method_70_code 195 = .ok (.iaload, 1) := by decide +kernel
theorem d104_196 : decode prog_14_method_70_code 196 = .ok (.iconst 1, 1) := by decide +kernel
theorem d104_197 : decode prog_14_method_70_code 197 = .ok (.iadd, 1) := by decide +kernel
theorem d104_198 : decode prog_14_method_70_code 198 = .ok (.iastore, 1) := by decide +kernel
theorem d104_199 : decode prog_14_method_70_code 199 = .ok (.return_, 1) := by decide +kernel
noncomputable def T_104 : Nat → Option xF := bn 85 (bn 37 (bn 8 (bn 3 (bn 1 (bl 0 (x_const 2147483648 1)) (bn 2 (bl 1 (y_istore 1 2)) (bl 2 (y_iload 1 3)))) (bn 4 (bl 3 (y_aload 0 4)) (bn 7 (bl 4 (y_getf 12 4 7)) (bl 7 (y_aload 0 8))))) (bn 32 (bn 11 (bl 8 (y_getf 12 2 11)) (bn 12 (bl 11 (y_iald 12)) (bl 12 (y_icmp yc3 32 15)))) (bn 34 (bn 33 (bl 32 (x_const 2147483648 33)) (bl 33 (y_istore 1 34))) (bn 35 (bl 34 (y_iload 1 35)) (bl 35 (x_const 2147483656 37)))))) (bn 74 (bn 42 (bn 38 (bl 37 (y_aload 0 38)) (bn 41 (bl 38 (y_getf 12 3 41)) (bl 41 (y_aload 0 42)))) (bn 46 (bn 45 (bl 42 (y_getf 12 2 45)) (bl 45 (y_iald 46))) (bn 47 (bl 46 (y_bin (xfg (fun x y => x * y)) 47)) (bl 47 (y_icmp yc3 74 50))))) (bn 77 (bn 75 (bl 74 (x_const 2147483648 75)) (bn 76 (bl 75 (y_istore 1 76)) (bl 76 (y_iload 1 77)))) (bn 81 (bn 78 (bl 77 (y_aload 0 78)) (bl 78 (y_getf 12 4 81))) (bn 82 (bl 81 (y_aload 0 82)) (bl 82 (y_getf 12 2 85))))))) (bn 169 (bn 145 (bn 141 (bn 86 (bl 85 (y_iald 86)) (bn 140 (bl 86 (y_icmp yc3 140 89)) (bl 140 (x_const 2147483648 141)))) (bn 142 (bl 141 (y_istore 1 142)) (bn 143 (bl 142 (y_iload 1 143)) (bl 143 (x_const 2147483656 145))))) (bn 150 (bn 146 (bl 145 (y_aload 0 146)) (bn 149 (bl 146 (y_getf 12 3 149)) (bl 149 (y_aload 0 150)))) (bn 154 (bn 153 (bl 150 (y_getf 12 2 153)) (bl 153 (y_iald 154))) (bn 155 (bl 154 (y_bin (xfg (fun x y => x * y)) 155)) (bl 155 (y_icmp yc3 169 158)))))) (bn 188 (bn 176 (bn 170 (bl 169 (y_aload 0 170)) (bn 173 (bl 170 (y_getf 12 7 173)) (bl 173 (y_if yc1 187 176)))) (bn 180 (bn 177 (bl 176 (y_aload 0 177)) (bl 177 (y_invV 12 90 1 180))) (bn 187 (bl 180 (y_if yc0 187 183)) (bl 187 (y_aload 0 188))))) (bn 195 (bn 191 (bl 188 (y_getf 12 0 191)) (bn 194 (bl 191 (x_const 2147484034 194)) (bl 194 (x_dup2 195)))) (bn 197 (bn 196 (bl 195 (y_iald 196)) (bl 196 (x_const 2147483649 197))) (bn 198 (bl 197 (y_bin yadd 198)) (bl 198 (y_iast 199)))))))
set_option maxRecDepth 100000 in
set_option maxHeartbeats 4000000 in
theorem T_104_ok (G : State → Nat → Nat → Prop) : xTree PX G prog_14_method_70_code "CapitalCaseModel" false T_104 := (xT_n (xT_n (xT_n (xT_n (xT_n (xT_l (s_iconst d104_0 (by decide +kernel))) (xT_n (xT_l (yS (y_istore_eq _ _) (s_istore_n d104_1))) (xT_l (yS (y_iload_eq _ _) (s_iload_n d104_2))))) (xT_n (xT_l (yS (y_aload_eq _ _) (s_aload_n d104_3))) (xT_n (xT_l (yS (y_getf_eq _ _ _) (s_getf (T := TX12) (N := 70) d104_4 rfl inX12 (by decide) wd_1305))) (xT_l (yS (y_aload_eq _ _) (s_aload_n d104_7)))))) (xT_n (xT_n (xT_l (yS (y_getf_eq _ _ _) (s_getf (T := TX12) (N := 70) d104_8 rfl inX12 (by decide) wd_1299))) (xT_n (xT_l (yS (y_iald_eq _) (s_iald d104_11))) (xT_l (yS (y_icmp_eq yc3_eq _ _) (s_icmpge d104_12 (by decide +kernel)))))) (xT_n (xT_n (xT_l (s_iconst d104_32 (by decide +kernel))) (xT_l (yS (y_istore_eq _ _) (s_istore_n d104_33)))) (xT_n (xT_l (yS (y_iload_eq _ _) (s_iload_n d104_34))) (xT_l (s_bipush d104_35 (by decide +kernel))))))) (xT_n (xT_n (xT_n (xT_l (yS (y_aload_eq _ _) (s_aload_n d104_37))) (xT_n (xT_l (yS (y_getf_eq _ _ _) (s_getf (T := TX12) (N := 70) d104_38 rfl inX12 (by decide) wd_1303))) (xT_l (yS (y_aload_eq _ _) (s_aload_n d104_41))))) (xT_n (xT_n (xT_l (yS (y_getf_eq _ _ _) (s_getf (T := TX12) (N := 70) d104_42 rfl inX12 (by decide) wd_1299))) (xT_l (yS (y_iald_eq _) (s_iald d104_45)))) (xT_n (xT_l (yS (y_bin_eq _ _) (s_imul d104_46))) (xT_l (yS (y_icmp_eq yc3_eq _ _) (s_icmpge d104_47 (by decide +kernel))))))) (xT_n (xT_n (xT_l (s_iconst d104_74 (by decide +kernel))) (xT_n (xT_l (yS (y_istore_eq _ _) (s_istore_n d104_75))) (xT_l (yS (y_iload_eq _ _) (s_iload_n d104_76))))) (xT_n (xT_n (xT_l (yS (y_aload_eq _ _) (s_aload_n d104_77))) (xT_l (yS (y_getf_eq _ _ _) (s_getf (T := TX12) (N := 70) d104_78 rfl inX12 (by decide) wd_1305)))) (xT_n (xT_l (yS (y_aload_eq _ _) (s_aload_n d104_81))) (xT_l (yS (y_getf_eq _ _ _) (s_getf (T := TX12) (N := 70) d104_82 rfl inX12 (by decide) wd_1299)))))))) (xT_n (xT_n (xT_n (xT_n (xT_l (yS (y_iald_eq _) (s_iald d104_85))) (xT_n (xT_l (yS (y_icmp_eq yc3_eq _ _) (s_icmpge d104_86 (by decide +kernel)))) (xT_l (s_iconst d104_140 (by decide +kernel))))) (xT_n (xT_l (yS (y_istore_eq _ _) (s_istore_n d104_141))) (xT_n (xT_l (yS (y_iload_eq _ _) (s_iload_n d104_142))) (xT_l (s_bipush d104_143 (by decide +kernel)))))) (xT_n (xT_n (xT_l (yS (y_aload_eq _ _) (s_aload_n d104_145))) (xT_n (xT_l (yS (y_getf_eq _ _ _) (s_getf (T := TX12) (N := 70) d104_146 rfl inX12 (by decide) wd_1303))) (xT_l (yS (y_aload_eq _ _) (s_aload_n d104_149))))) (xT_n (xT_n (xT_l (yS (y_getf_eq _ _ _) (s_getf (T := TX12) (N := 70) d104_150 rfl inX12 (by decide) wd_1299))) (xT_l (yS (y_iald_eq _) (s_iald d104_153)))) (xT_n (xT_l (yS (y_bin_eq _ _) (s_imul d104_154))) (xT_l (yS (y_icmp_eq yc3_eq _ _) (s_icmpge d104_155 (by decide +kernel)))))))) (xT_n (xT_n (xT_n (xT_l (yS (y_aload_eq _ _) (s_aload_n d104_169))) (xT_n (xT_l (yS (y_getf_eq _ _ _) (s_getf (T := TX12) (N := 70) d104_170 rfl inX12 (by decide) wd_1334))) (xT_l (yS (y_if_eq yc1_eq _ _) (s_ifne d104_173 (by decide +kernel)))))) (xT_n (xT_n (xT_l (yS (y_aload_eq _ _) (s_aload_n d104_176))) (xT_l (yS (y_invV_eq _ _ _ _) (s_invV (T := TX12) d104_177 cal_90 rfl wd_1766 wd_1768 wd_96)))) (xT_n (xT_l (yS (y_if_eq yc0_eq _ _) (s_ifeq d104_180 (by decide +kernel)))) (xT_l (yS (y_aload_eq _ _) (s_aload_n d104_187)))))) (xT_n (xT_n (xT_l (yS (y_getf_eq _ _ _) (s_getf (T := TX12) (N := 70) d104_188 rfl inX12 (by decide) wd_1332))) (xT_n (xT_l (s_sipush d104_191 (by decide +kernel))) (xT_l (s_dup2 d104_194)))) (xT_n (xT_n (xT_l (yS (y_iald_eq _) (s_iald d104_195))) (xT_l (s_iconst d104_196 (by decide +kernel)))) (xT_n (xT_l (yS (y_bin_eq _ _) (s_iadd d104_197))) (xT_l (yS (y_iast_eq _) (s_iast d104_198)))))))))
set_option maxRecDepth 100000 in
set_option maxHeartbeats 4000000 in
theorem M_104 : xMeth PX 104 (T_104, 2, [(199, 3)]) := ⟨⟨"CapitalCaseModel", "dayGoes", "()V"⟩, prog_14_method_70_code, none, rfl, by decide, fun G => T_104_ok G, xrt_ok (xR_c (Or.inr (Or.inr (Or.inl ⟨rfl, d104_199, rfl⟩))) (xR_n))⟩
theorem d105_0 : decode prog_14_method_82_code 0 = .ok (.iload_n 1, 1) := by decide +kernel
theorem d105_1 : decode prog_14_method_82_code 1 = .ok (.invokestatic 430, 3) := by decide +kernel
theorem d105_4 : decode prog_14_method_82_code 4 = .ok (.ifCond .ne 5, 3) := by decide +kernel
theorem d105_7 : decode prog_14_method_82_code 7 = .ok (.iconst (-1), 1) := by decide +kernel
theorem d105_8 : decode prog_14_method_82_code 8 = .ok (.ireturn, 1) := by decide +kernel
theorem d105_9 : decode prog_14_method_82_code 9 = .ok (.iload_n 1, 1) := by decide +kernel
theorem d105_10 : decode prog_14_method_82_code 10 = .ok (.ifCond .ne 12, 3) := by decide +kernel
theorem d105_13 : decode prog_14_method_82_code 13 = .ok (.aload_n 0, 1) := by decide +kernel
theorem d105_14 : decode prog_14_method_82_code 14 = .ok (.getfield 113, 3) := by decide +kernel
theorem d105_17 : decode prog_14_method_82_code 17 = .ok (.sipush 386, 3) := by decide +kernel
theorem d105_20 : decode prog_14_method_82_code 20 = .ok (.iaload, 1) := by decide +kernel
theorem d105_21 : decode prog_14_method_82_code 21 = .ok (.ireturn, 1) := by decide +kernel
theorem d105_22 : decode prog_14_method_82_code 22 = .ok (.aload_n 0, 1) := by decide +kernel
theorem d105_23 : decode prog_14_method_82_code 23 = .ok (.invokevirtual 411, 3) := by decide +kernel
theorem d105_26 : decode prog_14_method_82_code 26 = .ok (.aload_n 0, 1) := by decide +kernel
theorem d105_27 : decode prog_14_method_82_code 27 = .ok (.iload_n 1, 1) := by decide +kernel
theorem d105_28 : decode prog_14_method_82_code 28 = .ok (.invokevirtual 433, 3) := by decide +kernel
theorem d105_31 : decode prog_14_method_82_code 31 = .ok (.aload_n 0, 1) := by decide +kernel
theorem d105_32 : decode prog_14_method_82_code 32 = .ok (.invokevirtual 424, 3) := by decide +kernel
theorem d105_35 : decode prog_14_method_82_code 35 = .ok (.aload_n 0, 1) := by decide +kernel
theorem d105_36 : decode prog_14_method_82_code 36 = .ok (.getfield 113, 3) := by decide +kernel
theorem d105_39 : decode prog_14_method_82_code 39 = .ok (.sipush 386, 3) := by decide +kernel
theorem d105_42 : decode prog_14_method_82_code 42 = .ok (.iaload, 1) := by decide +kernel
theorem d105_43 : decode prog_14_method_82_code 43 = .ok (.ireturn, 1) := by decide +kernel
noncomputable def T_105 : Nat → Option xF := bn 22 (bn 10 (bn 4 (bn 1 (bl 0 (y_iload 1 1)) (bl 1 (y_inv 118 1 4))) (bn 7 (bl 4 (y_if yc1 9 7)) (bn 9 (bl 7 (x_const 2147483647 8)) (bl 9 (y_iload 1 10))))) (bn 14 (bn 13 (bl 10 (y_if yc1 22 13)) (bl 13 (y_aload 0 14))) (bn 17 (bl 14 (y_getf 12 1 17)) (bn 20 (bl 17 (x_const 2147484034 20)) (bl 20 (y_iald 21)))))) (bn 31 (bn 26 (bn 23 (bl 22 (y_aload 0 23)) (bl 23 (y_invV 12 101 1 26))) (bn 27 (bl 26 (y_aload 0 27)) (bn 28 (bl 27 (y_iload 1 28)) (bl 28 (y_invV 12 112 2 31))))) (bn 36 (bn 32 (bl 31 (y_aload 0 32)) (bn 35 (bl 32 (y_invV 12 135 1 35)) (bl 35 (y_aload 0 36)))) (bn 39 (bl 36 (y_getf 12 1 39)) (bn 42 (bl 39 (x_const 2147484034 42)) (bl 42 (y_iald 43))))))
set_option maxRecDepth 100000 in
set_option maxHeartbeats 4000000 in
theorem T_105_ok (G : State → Nat → Nat → Prop) : xTree PX G prog_14_method_82_code "CapitalCaseModel" false T_105 := (xT_n (xT_n (xT_n (xT_n (xT_l (yS (y_iload_eq _ _) (s_iload_n d105_0))) (xT_l (yS (y_inv_eq _ _ _) (s_invS d105_1 cal_118 wd_1751 wd_1752)))) (xT_n (xT_l (yS (y_if_eq yc1_eq _ _) (s_ifne d105_4 (by decide +kernel)))) (xT_n (xT_l (s_iconst d105_7 (by decide +kernel))) (xT_l (yS (y_iload_eq _ _) (s_iload_n d105_9)))))) (xT_n (xT_n (xT_l (yS (y_if_eq yc1_eq _ _) (s_ifne d105_10 (by decide +kernel)))) (xT_l (yS (y_aload_eq _ _) (s_aload_n d105_13)))) (xT_n (xT_l (yS (y_getf_eq _ _ _) (s_getf (T := TX12) (N := 70) d105_14 rfl inX12 (by decide) wd_1331))) (xT_n (xT_l (s_sipush d105_17 (by decide +kernel))) (xT_l (yS (y_iald_eq _) (s_iald d105_20))))))) (xT_n (xT_n (xT_n (xT_l (yS (y_aload_eq _ _) (s_aload_n d105_22))) (xT_l (yS (y_invV_eq _ _ _ _) (s_invV (T := TX12) d105_23 cal_101 rfl wd_1635 wd_1637 wd_73)))) (xT_n (xT_l (yS (y_aload_eq _ _) (s_aload_n d105_26))) (xT_n (xT_l (yS (y_iload_eq _ _) (s_iload_n d105_27))) (xT_l (yS (y_invV_eq _ _ _ _) (s_invV (T := TX12) d105_28 cal_112 rfl wd_1754 wd_1756 wd_93)))))) (xT_n (xT_n (xT_l (yS (y_aload_eq _ _) (s_aload_n d105_31))) (xT_n (xT_l (yS (y_invV_eq _ _ _ _) (s_invV (T := TX12) d105_32 cal_135 rfl wd_1727 wd_1729 wd_91))) (xT_l (yS (y_aload_eq _ _) (s_aload_n d105_35))))) (xT_n (xT_l (yS (y_getf_eq _ _ _) (s_getf (T := TX12) (N := 70) d105_36 rfl inX12 (by decide) wd_1331))) (xT_n (xT_l (s_sipush d105_39 (by decide +kernel))) (xT_l (yS (y_iald_eq _) (s_iald d105_42))))))))
set_option maxRecDepth 100000 in
set_option maxHeartbeats 4000000 in
theorem M_105 : xMeth PX 105 (T_105, 2, [(8, 1), (21, 1), (43, 1)]) := ⟨⟨"CapitalCaseModel", "days", "(I)I"⟩, prog_14_method_82_code, (some .int), rfl, by decide, fun G => T_105_ok G, xrt_ok (xR_c (Or.inl ⟨rfl, d105_8, rfl⟩) (xR_c (Or.inl ⟨rfl, d105_21, rfl⟩) (xR_c (Or.inl ⟨rfl, d105_43, rfl⟩) (xR_n))))⟩
theorem d106_0 : decode prog_14_method_3_code 0 = .ok (.aload_n 0, 1) := by decide +kernel
theorem d106_1 : decode prog_14_method_3_code 1 = .ok (.getfield 163, 3) := by decide +kernel
theorem d106_4 : decode prog_14_method_3_code 4 = .ok (.bipush 20, 2) := by decide +kernel
theorem d106_6 : decode prog_14_method_3_code 6 = .ok (.iadd, 1) := by decide +kernel
theorem d106_7 : decode prog_14_method_3_code 7 = .ok (.sipush 2000, 3) := by decide +kernel
theorem d106_10 : decode prog_14_method_3_code 10 = .ok (.if_icmp .le 5, 3) := by decide +kernel
theorem d106_15 : decode prog_14_method_3_code 15 = .ok (.aload_n 0, 1) := by decide +kernel
theorem d106_16 : decode prog_14_method_3_code 16 = .ok (.iload_n 1, 1) := by decide +kernel
theorem d106_17 : decode prog_14_method_3_code 17 = .ok (.invokevirtual 166, 3) := by decide +kernel
theorem d106_20 : decode prog_14_method_3_code 20 = .ok (.aload_n 0, 1) := by decide +kernel
theorem d106_21 : decode prog_14_method_3_code 21 = .ok (.iload_n 2, 1) := by decide +kernel
theorem d106_22 : decode prog_14_method_3_code 22 = .ok (.invokevirtual 166, 3) := by decide +kernel
theorem d106_25 : decode prog_14_method_3_code 25 = .ok (.aload_n 0, 1) := by decide +kernel
theorem d106_26 : decode prog_14_method_3_code 26 = .ok (.iload_n 3, 1) := by decide +kernel
theorem d106_27 : decode prog_14_method_3_code 27 = .ok (.invokevirtual 166, 3) := by decide +kernel
theorem d106_30 : decode prog_14_method_3_code 30 = .ok (.aload_n 0, 1) := by decide +kernel
theorem d106_31 : decode prog_14_method_3_code 31 = .ok (.iload 4, 2) := by decide +kernel
theorem d106_33 : decode prog_14_method_3_code 33 = .ok (.invokevirtual 166, 3) := by decide +kernel
theorem d106_36 : decode prog_14_method_3_code 36 = .ok (.aload_n 0, 1) := by decide +kernel
theorem d106_37 : decode prog_14_method_3_code 37 = .ok (.iload 5, 2) := by decide +kernel
theorem d106_39 : decode prog_14_method_3_code 39 = .ok (.invokevirtual 166, 3) := by decide +kernel
theorem d106_42 : decode prog_14_method_3_code 42 = .ok (.aload_n 0, 1) := by decide +kernel
theorem d106_43 : decode prog_14_method_3_code 43 = .ok (.getfield 163, 3) := by decide +kernel
theorem d106_46 : decode prog_14_method_3_code 46 = .ok (.ireturn, 1) := by decide +kernel
noncomputable def T_106 : Nat → Option xF := bn 22 (bn 10 (bn 4 (bn 1 (bl 0 (y_aload 0 1)) (bl 1 (y_getf 12 12 4))) (bn 6 (bl 4 (x_const 2147483668 6)) (bn 7 (bl 6 (y_bin yadd 7)) (bl 7 (x_const 2147485648 10))))) (bn 17 (bn 15 (bl 10 (y_icmp yc5 15 13)) (bn 16 (bl 15 (y_aload 0 16)) (bl 16 (y_iload 1 17)))) (bn 20 (bl 17 (y_invV 12 133 2 20)) (bn 21 (bl 20 (y_aload 0 21)) (bl 21 (y_iload 2 22)))))) (bn 33 (bn 27 (bn 25 (bl 22 (y_invV 12 133 2 25)) (bn 26 (bl 25 (y_aload 0 26)) (bl 26 (y_iload 3 27)))) (bn 30 (bl 27 (y_invV 12 133 2 30)) (bn 31 (bl 30 (y_aload 0 31)) (bl 31 (y_iload 4 33))))) (bn 39 (bn 36 (bl 33 (y_invV 12 133 2 36)) (bn 37 (bl 36 (y_aload 0 37)) (bl 37 (y_iload 5 39)))) (bn 42 (bl 39 (y_invV 12 133 2 42)) (bn 43 (bl 42 (y_aload 0 43)) (bl 43 (y_getf 12 12 46))))))
set_option maxRecDepth 100000 in
set_option maxHeartbeats 4000000 in
theorem T_106_ok (G : State → Nat → Nat → Prop) : xTree PX G prog_14_method_3_code "CapitalCaseModel" false T_106 := (xT_n (xT_n (xT_n (xT_n (xT_l (yS (y_aload_eq _ _) (s_aload_n d106_0))) (xT_l (yS (y_getf_eq _ _ _) (s_getf (T := TX12) (N := 70) d106_1 rfl inX12 (by decide) wd_1283)))) (xT_n (xT_l (s_bipush d106_4 (by decide +kernel))) (xT_n (xT_l (yS (y_bin_eq _ _) (s_iadd d106_6))) (xT_l (s_sipush d106_7 (by decide +kernel)))))) (xT_n (xT_n (xT_l (yS (y_icmp_eq yc5_eq _ _) (s_icmple d106_10 (by decide +kernel)))) (xT_n (xT_l (yS (y_aload_eq _ _) (s_aload_n d106_15))) (xT_l (yS (y_iload_eq _ _) (s_iload_n d106_16))))) (xT_n (xT_l (yS (y_invV_eq _ _ _ _) (s_invV (T := TX12) d106_17 cal_133 rfl wd_1497 wd_1499 wd_47))) (xT_n (xT_l (yS (y_aload_eq _ _) (s_aload_n d106_20))) (xT_l (yS (y_iload_eq _ _) (s_iload_n d106_21))))))) (xT_n (xT_n (xT_n (xT_l (yS (y_invV_eq _ _ _ _) (s_invV (T := TX12) d106_22 cal_133 rfl wd_1497 wd_1499 wd_47))) (xT_n (xT_l (yS (y_aload_eq _ _) (s_aload_n d106_25))) (xT_l (yS (y_iload_eq _ _) (s_iload_n d106_26))))) (xT_n (xT_l (yS (y_invV_eq _ _ _ _) (s_invV (T := TX12) d106_27 cal_133 rfl wd_1497 wd_1499 wd_47))) (xT_n (xT_l (yS (y_aload_eq _ _) (s_aload_n d106_30))) (xT_l (yS (y_iload_eq _ _) (s_iload d106_31)))))) (xT_n (xT_n (xT_l (yS (y_invV_eq _ _ _ _) (s_invV (T := TX12) d106_33 cal_133 rfl wd_1497 wd_1499 wd_47))) (xT_n (xT_l (yS (y_aload_eq _ _) (s_aload_n d106_36))) (xT_l (yS (y_iload_eq _ _) (s_iload d106_37))))) (xT_n (xT_l (yS (y_invV_eq _ _ _ _) (s_invV (T := TX12) d106_39 cal_133 rfl wd_1497 wd_1499 wd_47))) (xT_n (xT_l (yS (y_aload_eq _ _) (s_aload_n d106_42))) (xT_l (yS (y_getf_eq _ _ _) (s_getf (T := TX12) (N := 70) d106_43 rfl inX12 (by decide) wd_1283))))))))
set_option maxRecDepth 100000 in
set_option maxHeartbeats 4000000 in
theorem M_106 : xMeth PX 106 (T_106, 6, [(46, 1)]) := ⟨⟨"CapitalCaseModel", "feed", "(IIIII)I"⟩, prog_14_method_3_code, (some .int), rfl, by decide, fun G => T_106_ok G, xrt_ok (xR_c (Or.inl ⟨rfl, d106_46, rfl⟩) (xR_n))⟩
