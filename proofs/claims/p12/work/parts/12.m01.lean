theorem d16_0 : decode prog_14_method_9_code 0 = .ok (.iload_n 2, 1) := by decide +kernel
theorem d16_1 : decode prog_14_method_9_code 1 = .ok (.ifCond .ne 7, 3) := by decide +kernel
theorem d16_4 : decode prog_14_method_9_code 4 = .ok (.lload_n 0, 1) := by decide +kernel
theorem d16_5 : decode prog_14_method_9_code 5 = .ok (.goto 16, 3) := by decide +kernel
theorem d16_8 : decode prog_14_method_9_code 8 = .ok (.ldc2_w 172, 3) := by decide +kernel
theorem d16_11 : decode prog_14_method_9_code 11 = .ok (.lload_n 0, 1) := by decide +kernel
theorem d16_12 : decode prog_14_method_9_code 12 = .ok (.lmul, 1) := by decide +kernel
theorem d16_13 : decode prog_14_method_9_code 13 = .ok (.iload_n 2, 1) := by decide +kernel
theorem d16_14 : decode prog_14_method_9_code 14 = .ok (.bipush 97, 2) := by decide +kernel
theorem d16_16 : decode prog_14_method_9_code 16 = .ok (.isub, 1) := by decide +kernel
theorem d16_17 : decode prog_14_method_9_code 17 = .ok (.iconst 1, 1) := by decide +kernel
theorem d16_18 : decode prog_14_method_9_code 18 = .ok (.iadd, 1) := by decide +kernel
theorem d16_19 : decode prog_14_method_9_code 19 = .ok (.i2l, 1) := by decide +kernel
theorem d16_20 : decode prog_14_method_9_code 20 = .ok (.ladd, 1) := by decide +kernel
theorem d16_21 : decode prog_14_method_9_code 21 = .ok (.lreturn, 1) := by decide +kernel
noncomputable def T_16 : Nat → Option xF := bn 13 (bn 5 (bn 1 (bl 0 (y_iload 2 1)) (bn 4 (bl 1 (y_if yc1 8 4)) (bl 4 (x_lload 0 5)))) (bn 11 (bn 8 (bl 5 (x_goto 21)) (bl 8 (x_lconst 27 11))) (bn 12 (bl 11 (x_lload 0 12)) (bl 12 (x_lbin Nat.mul 13))))) (bn 17 (bn 14 (bl 13 (y_iload 2 14)) (bn 16 (bl 14 (x_const 2147483745 16)) (bl 16 (y_bin ysub 17)))) (bn 19 (bn 18 (bl 17 (x_const 2147483649 18)) (bl 18 (y_bin yadd 19))) (bn 20 (bl 19 (x_i2l 20)) (bl 20 (x_lbin Nat.add 21)))))
set_option maxRecDepth 100000 in
set_option maxHeartbeats 4000000 in
theorem T_16_ok (G : State → Nat → Nat → Prop) : xTree PX G prog_14_method_9_code "CapitalCaseModel" false T_16 := (xT_n (xT_n (xT_n (xT_l (yS (y_iload_eq _ _) (s_iload_n d16_0))) (xT_n (xT_l (yS (y_if_eq yc1_eq _ _) (s_ifne d16_1 (by decide +kernel)))) (xT_l (s_lload_n d16_4)))) (xT_n (xT_n (xT_l (s_goto d16_5 (by decide +kernel))) (xT_l (s_ldc2 d16_8 wd_1273 (by decide +kernel)))) (xT_n (xT_l (s_lload_n d16_11)) (xT_l (s_lmul d16_12))))) (xT_n (xT_n (xT_l (yS (y_iload_eq _ _) (s_iload_n d16_13))) (xT_n (xT_l (s_bipush d16_14 (by decide +kernel))) (xT_l (yS (y_bin_eq _ _) (s_isub d16_16))))) (xT_n (xT_n (xT_l (s_iconst d16_17 (by decide +kernel))) (xT_l (yS (y_bin_eq _ _) (s_iadd d16_18)))) (xT_n (xT_l (s_i2l d16_19)) (xT_l (s_ladd d16_20))))))
set_option maxRecDepth 100000 in
set_option maxHeartbeats 4000000 in
theorem M_16 : xMeth PX 16 (T_16, 3, [(21, 4)]) := ⟨⟨"CapitalCaseModel", "appends", "(JI)J"⟩, prog_14_method_9_code, (some .long), rfl, by decide, fun G => T_16_ok G, xrt_ok (xR_c (Or.inr (Or.inr (Or.inr ⟨rfl, d16_21, rfl⟩))) (xR_n))⟩
theorem d17_0 : decode prog_14_method_46_code 0 = .ok (.iconst 0, 1) := by decide +kernel
theorem d17_1 : decode prog_14_method_46_code 1 = .ok (.istore_n 1, 1) := by decide +kernel
theorem d17_2 : decode prog_14_method_46_code 2 = .ok (.iload_n 1, 1) := by decide +kernel
theorem d17_3 : decode prog_14_method_46_code 3 = .ok (.sipush 390, 3) := by decide +kernel
theorem d17_6 : decode prog_14_method_46_code 6 = .ok (.if_icmp .ge 16, 3) := by decide +kernel
theorem d17_9 : decode prog_14_method_46_code 9 = .ok (.aload_n 0, 1) := by decide +kernel
theorem d17_10 : decode prog_14_method_46_code 10 = .ok (.getfield 116, 3) := by decide +kernel
theorem d17_13 : decode prog_14_method_46_code 13 = .ok (.iload_n 1, 1) := by decide +kernel
theorem d17_14 : decode prog_14_method_46_code 14 = .ok (.iconst 0, 1) := by decide +kernel
theorem d17_15 : decode prog_14_method_46_code 15 = .ok (.iastore, 1) := by decide +kernel
theorem d17_16 : decode prog_14_method_46_code 16 = .ok (.iinc 1 1, 3) := by decide +kernel
theorem d17_19 : decode prog_14_method_46_code 19 = .ok (.goto (-17), 3) := by decide +kernel
theorem d17_22 : decode prog_14_method_46_code 22 = .ok (.iconst 0, 1) := by decide +kernel
theorem d17_23 : decode prog_14_method_46_code 23 = .ok (.istore_n 1, 1) := by decide +kernel
theorem d17_24 : decode prog_14_method_46_code 24 = .ok (.iload_n 1, 1) := by decide +kernel
theorem d17_25 : decode prog_14_method_46_code 25 = .ok (.bipush 8, 2) := by decide +kernel
theorem d17_27 : decode prog_14_method_46_code 27 = .ok (.aload_n 0, 1) := by decide +kernel
theorem d17_28 : decode prog_14_method_46_code 28 = .ok (.getfield 43, 3) := by decide +kernel
theorem d17_31 : decode prog_14_method_46_code 31 = .ok (.aload_n 0, 1) := by decide +kernel
theorem d17_32 : decode prog_14_method_46_code 32 = .ok (.getfield 230, 3) := by decide +kernel
theorem d17_35 : decode prog_14_method_46_code 35 = .ok (.iaload, 1) := by decide +kernel
theorem d17_36 : decode prog_14_method_46_code 36 = .ok (.imul, 1) := by decide +kernel
theorem d17_37 : decode prog_14_method_46_code 37 = .ok (.if_icmp .ge 29, 3) := by decide +kernel
theorem d17_66 : decode prog_14_method_46_code 66 = .ok (.aload_n 0, 1) := by decide +kernel
theorem d17_67 : decode prog_14_method_46_code 67 = .ok (.aload_n 0, 1) := by decide +kernel
theorem d17_68 : decode prog_14_method_46_code 68 = .ok (.getfield 70, 3) := by decide +kernel
theorem d17_71 : decode prog_14_method_46_code 71 = .ok (.aload_n 0, 1) := by decide +kernel
theorem d17_72 : decode prog_14_method_46_code 72 = .ok (.getfield 230, 3) := by decide +kernel
theorem d17_75 : decode prog_14_method_46_code 75 = .ok (.iaload, 1) := by decide +kernel
theorem d17_76 : decode prog_14_method_46_code 76 = .ok (.putfield 328, 3) := by decide +kernel
theorem d17_79 : decode prog_14_method_46_code 79 = .ok (.aload_n 0, 1) := by decide +kernel
theorem d17_80 : decode prog_14_method_46_code 80 = .ok (.iconst 0, 1) := by decide +kernel
theorem d17_81 : decode prog_14_method_46_code 81 = .ok (.putfield 331, 3) := by decide +kernel
theorem d17_84 : decode prog_14_method_46_code 84 = .ok (.aload_n 0, 1) := by decide +kernel
theorem d17_85 : decode prog_14_method_46_code 85 = .ok (.iconst (-1), 1) := by decide +kernel
theorem d17_86 : decode prog_14_method_46_code 86 = .ok (.putfield 334, 3) := by decide +kernel
theorem d17_89 : decode prog_14_method_46_code 89 = .ok (.return_, 1) := by decide +kernel
noncomputable def T_17 : Nat → Option xF := bn 31 (bn 15 (bn 6 (bn 2 (bn 1 (bl 0 (x_const 2147483648 1)) (bl 1 (y_istore 1 2))) (bn 3 (bl 2 (y_iload 1 3)) (bl 3 (x_const 2147484038 6)))) (bn 10 (bn 9 (bl 6 (y_icmp yc3 22 9)) (bl 9 (y_aload 0 10))) (bn 13 (bl 10 (y_getf 12 0 13)) (bn 14 (bl 13 (y_iload 1 14)) (bl 14 (x_const 2147483648 15)))))) (bn 23 (bn 19 (bn 16 (bl 15 (y_iast 16)) (bl 16 (y_iinc 1 2147483649 19))) (bn 22 (bl 19 (x_goto 2)) (bl 22 (x_const 2147483648 23)))) (bn 25 (bn 24 (bl 23 (y_istore 1 24)) (bl 24 (y_iload 1 25))) (bn 27 (bl 25 (x_const 2147483656 27)) (bn 28 (bl 27 (y_aload 0 28)) (bl 28 (y_getf 12 3 31))))))) (bn 72 (bn 37 (bn 35 (bn 32 (bl 31 (y_aload 0 32)) (bl 32 (y_getf 12 2 35))) (bn 36 (bl 35 (y_iald 36)) (bl 36 (y_bin (xfg (fun x y => x * y)) 37)))) (bn 67 (bn 66 (bl 37 (y_icmp yc3 66 40)) (bl 66 (y_aload 0 67))) (bn 68 (bl 67 (y_aload 0 68)) (bn 71 (bl 68 (y_getf 12 5 71)) (bl 71 (y_aload 0 72)))))) (bn 80 (bn 76 (bn 75 (bl 72 (y_getf 12 2 75)) (bl 75 (y_iald 76))) (bn 79 (bl 76 (y_putf 12 6 0 79)) (bl 79 (y_aload 0 80)))) (bn 84 (bn 81 (bl 80 (x_const 2147483648 81)) (bl 81 (y_putf 12 7 1 84))) (bn 85 (bl 84 (y_aload 0 85)) (bn 86 (bl 85 (x_const 2147483647 86)) (bl 86 (y_putf 12 8 0 89)))))))
set_option maxRecDepth 100000 in
set_option maxHeartbeats 4000000 in
theorem T_17_ok (G : State → Nat → Nat → Prop) : xTree PX G prog_14_method_46_code "CapitalCaseModel" false T_17 := (xT_n (xT_n (xT_n (xT_n (xT_n (xT_l (s_iconst d17_0 (by decide +kernel))) (xT_l (yS (y_istore_eq _ _) (s_istore_n d17_1)))) (xT_n (xT_l (yS (y_iload_eq _ _) (s_iload_n d17_2))) (xT_l (s_sipush d17_3 (by decide +kernel))))) (xT_n (xT_n (xT_l (yS (y_icmp_eq yc3_eq _ _) (s_icmpge d17_6 (by decide +kernel)))) (xT_l (yS (y_aload_eq _ _) (s_aload_n d17_9)))) (xT_n (xT_l (yS (y_getf_eq _ _ _) (s_getf (T := TX12) (N := 70) d17_10 rfl inX12 (by decide) wd_1332))) (xT_n (xT_l (yS (y_iload_eq _ _) (s_iload_n d17_13))) (xT_l (s_iconst d17_14 (by decide +kernel))))))) (xT_n (xT_n (xT_n (xT_l (yS (y_iast_eq _) (s_iast d17_15))) (xT_l (yS (y_iinc_eq _ _ _) (s_iinc d17_16 (by decide +kernel))))) (xT_n (xT_l (s_goto d17_19 (by decide +kernel))) (xT_l (s_iconst d17_22 (by decide +kernel))))) (xT_n (xT_n (xT_l (yS (y_istore_eq _ _) (s_istore_n d17_23))) (xT_l (yS (y_iload_eq _ _) (s_iload_n d17_24)))) (xT_n (xT_l (s_bipush d17_25 (by decide +kernel))) (xT_n (xT_l (yS (y_aload_eq _ _) (s_aload_n d17_27))) (xT_l (yS (y_getf_eq _ _ _) (s_getf (T := TX12) (N := 70) d17_28 rfl inX12 (by decide) wd_1303)))))))) (xT_n (xT_n (xT_n (xT_n (xT_l (yS (y_aload_eq _ _) (s_aload_n d17_31))) (xT_l (yS (y_getf_eq _ _ _) (s_getf (T := TX12) (N := 70) d17_32 rfl inX12 (by decide) wd_1299)))) (xT_n (xT_l (yS (y_iald_eq _) (s_iald d17_35))) (xT_l (yS (y_bin_eq _ _) (s_imul d17_36))))) (xT_n (xT_n (xT_l (yS (y_icmp_eq yc3_eq _ _) (s_icmpge d17_37 (by decide +kernel)))) (xT_l (yS (y_aload_eq _ _) (s_aload_n d17_66)))) (xT_n (xT_l (yS (y_aload_eq _ _) (s_aload_n d17_67))) (xT_n (xT_l (yS (y_getf_eq _ _ _) (s_getf (T := TX12) (N := 70) d17_68 rfl inX12 (by decide) wd_1312))) (xT_l (yS (y_aload_eq _ _) (s_aload_n d17_71))))))) (xT_n (xT_n (xT_n (xT_l (yS (y_getf_eq _ _ _) (s_getf (T := TX12) (N := 70) d17_72 rfl inX12 (by decide) wd_1299))) (xT_l (yS (y_iald_eq _) (s_iald d17_75)))) (xT_n (xT_l (yS (y_putf_eq _ _ _ _) (s_putf (T := TX12) (N := 70) (ty := tyX12) d17_76 rfl inX12 tyX12_ok nmX12 (by decide) wd_1333 (Or.inl ⟨rfl, rfl⟩) rfl))) (xT_l (yS (y_aload_eq _ _) (s_aload_n d17_79))))) (xT_n (xT_n (xT_l (s_iconst d17_80 (by decide +kernel))) (xT_l (yS (y_putf_eq _ _ _ _) (s_putf (T := TX12) (N := 70) (ty := tyX12) d17_81 rfl inX12 tyX12_ok nmX12 (by decide) wd_1334 (Or.inr (Or.inl ⟨rfl, rfl⟩)) rfl)))) (xT_n (xT_l (yS (y_aload_eq _ _) (s_aload_n d17_84))) (xT_n (xT_l (s_iconst d17_85 (by decide +kernel))) (xT_l (yS (y_putf_eq _ _ _ _) (s_putf (T := TX12) (N := 70) (ty := tyX12) d17_86 rfl inX12 tyX12_ok nmX12 (by decide) wd_1335 (Or.inl ⟨rfl, rfl⟩) rfl)))))))))
set_option maxRecDepth 100000 in
set_option maxHeartbeats 4000000 in
theorem M_17 : xMeth PX 17 (T_17, 2, [(89, 3)]) := ⟨⟨"CapitalCaseModel", "begins", "()V"⟩, prog_14_method_46_code, none, rfl, by decide, fun G => T_17_ok G, xrt_ok (xR_c (Or.inr (Or.inr (Or.inl ⟨rfl, d17_89, rfl⟩))) (xR_n))⟩
theorem d18_0 : decode prog_14_method_47_code 0 = .ok (.iconst 0, 1) := by decide +kernel
theorem d18_1 : decode prog_14_method_47_code 1 = .ok (.istore_n 1, 1) := by decide +kernel
theorem d18_2 : decode prog_14_method_47_code 2 = .ok (.iload_n 1, 1) := by decide +kernel
theorem d18_3 : decode prog_14_method_47_code 3 = .ok (.sipush 390, 3) := by decide +kernel
theorem d18_6 : decode prog_14_method_47_code 6 = .ok (.if_icmp .ge 21, 3) := by decide +kernel
theorem d18_9 : decode prog_14_method_47_code 9 = .ok (.aload_n 0, 1) := by decide +kernel
theorem d18_10 : decode prog_14_method_47_code 10 = .ok (.getfield 113, 3) := by decide +kernel
theorem d18_13 : decode prog_14_method_47_code 13 = .ok (.iload_n 1, 1) := by decide +kernel
theorem d18_14 : decode prog_14_method_47_code 14 = .ok (.aload_n 0, 1) := by decide +kernel
theorem d18_15 : decode prog_14_method_47_code 15 = .ok (.getfield 116, 3) := by decide +kernel
theorem d18_18 : decode prog_14_method_47_code 18 = .ok (.iload_n 1, 1) := by decide +kernel
theorem d18_19 : decode prog_14_method_47_code 19 = .ok (.iaload, 1) := by decide +kernel
theorem d18_20 : decode prog_14_method_47_code 20 = .ok (.iastore, 1) := by decide +kernel
theorem d18_21 : decode prog_14_method_47_code 21 = .ok (.iinc 1 1, 3) := by decide +kernel
theorem d18_24 : decode prog_14_method_47_code 24 = .ok (.goto (-22), 3) := by decide +kernel
theorem d18_27 : decode prog_14_method_47_code 27 = .ok (.return_, 1) := by decide +kernel
noncomputable def T_18 : Nat → Option xF := bn 13 (bn 3 (bn 1 (bl 0 (x_const 2147483648 1)) (bn 2 (bl 1 (y_istore 1 2)) (bl 2 (y_iload 1 3)))) (bn 9 (bn 6 (bl 3 (x_const 2147484038 6)) (bl 6 (y_icmp yc3 27 9))) (bn 10 (bl 9 (y_aload 0 10)) (bl 10 (y_getf 12 1 13))))) (bn 19 (bn 15 (bn 14 (bl 13 (y_iload 1 14)) (bl 14 (y_aload 0 15))) (bn 18 (bl 15 (y_getf 12 0 18)) (bl 18 (y_iload 1 19)))) (bn 21 (bn 20 (bl 19 (y_iald 20)) (bl 20 (y_iast 21))) (bn 24 (bl 21 (y_iinc 1 2147483649 24)) (bl 24 (x_goto 2)))))
set_option maxRecDepth 100000 in
set_option maxHeartbeats 4000000 in
theorem T_18_ok (G : State → Nat → Nat → Prop) : xTree PX G prog_14_method_47_code "CapitalCaseModel" false T_18 := (xT_n (xT_n (xT_n (xT_l (s_iconst d18_0 (by decide +kernel))) (xT_n (xT_l (yS (y_istore_eq _ _) (s_istore_n d18_1))) (xT_l (yS (y_iload_eq _ _) (s_iload_n d18_2))))) (xT_n (xT_n (xT_l (s_sipush d18_3 (by decide +kernel))) (xT_l (yS (y_icmp_eq yc3_eq _ _) (s_icmpge d18_6 (by decide +kernel))))) (xT_n (xT_l (yS (y_aload_eq _ _) (s_aload_n d18_9))) (xT_l (yS (y_getf_eq _ _ _) (s_getf (T := TX12) (N := 70) d18_10 rfl inX12 (by decide) wd_1331)))))) (xT_n (xT_n (xT_n (xT_l (yS (y_iload_eq _ _) (s_iload_n d18_13))) (xT_l (yS (y_aload_eq _ _) (s_aload_n d18_14)))) (xT_n (xT_l (yS (y_getf_eq _ _ _) (s_getf (T := TX12) (N := 70) d18_15 rfl inX12 (by decide) wd_1332))) (xT_l (yS (y_iload_eq _ _) (s_iload_n d18_18))))) (xT_n (xT_n (xT_l (yS (y_iald_eq _) (s_iald d18_19))) (xT_l (yS (y_iast_eq _) (s_iast d18_20)))) (xT_n (xT_l (yS (y_iinc_eq _ _ _) (s_iinc d18_21 (by decide +kernel)))) (xT_l (s_goto d18_24 (by decide +kernel)))))))
set_option maxRecDepth 100000 in
set_option maxHeartbeats 4000000 in
theorem M_18 : xMeth PX 18 (T_18, 2, [(27, 3)]) := ⟨⟨"CapitalCaseModel", "keepsRow", "()V"⟩, prog_14_method_47_code, none, rfl, by decide, fun G => T_18_ok G, xrt_ok (xR_c (Or.inr (Or.inr (Or.inl ⟨rfl, d18_27, rfl⟩))) (xR_n))⟩
theorem d19_0 : decode prog_14_method_19_code 0 = .ok (.aload_n 0, 1) := by decide +kernel
theorem d19_1 : decode prog_14_method_19_code 1 = .ok (.getfield 43, 3) := by decide +kernel
theorem d19_4 : decode prog_14_method_19_code 4 = .ok (.iload_n 1, 1) := by decide +kernel
theorem d19_5 : decode prog_14_method_19_code 5 = .ok (.iconst 0, 1) := by decide +kernel
theorem d19_6 : decode prog_14_method_19_code 6 = .ok (.iastore, 1) := by decide +kernel
theorem d19_7 : decode prog_14_method_19_code 7 = .ok (.aload_n 0, 1) := by decide +kernel
theorem d19_8 : decode prog_14_method_19_code 8 = .ok (.getfield 49, 3) := by decide +kernel
theorem d19_11 : decode prog_14_method_19_code 11 = .ok (.iload_n 1, 1) := by decide +kernel
theorem d19_12 : decode prog_14_method_19_code 12 = .ok (.iconst 0, 1) := by decide +kernel
theorem d19_13 : decode prog_14_method_19_code 13 = .ok (.iastore, 1) := by decide +kernel
theorem d19_14 : decode prog_14_method_19_code 14 = .ok (.aload_n 0, 1) := by decide +kernel
theorem d19_15 : decode prog_14_method_19_code 15 = .ok (.getfield 64, 3) := by decide +kernel
theorem d19_18 : decode prog_14_method_19_code 18 = .ok (.iload_n 1, 1) := by decide +kernel
theorem d19_19 : decode prog_14_method_19_code 19 = .ok (.bipush 20, 2) := by decide +kernel
theorem d19_21 : decode prog_14_method_19_code 21 = .ok (.iastore, 1) := by decide +kernel
theorem d19_22 : decode prog_14_method_19_code 22 = .ok (.aload_n 0, 1) := by decide +kernel
theorem d19_23 : decode prog_14_method_19_code 23 = .ok (.getfield 67, 3) := by decide +kernel
theorem d19_26 : decode prog_14_method_19_code 26 = .ok (.iload_n 1, 1) := by decide +kernel
theorem d19_27 : decode prog_14_method_19_code 27 = .ok (.iconst 0, 1) := by decide +kernel
theorem d19_28 : decode prog_14_method_19_code 28 = .ok (.iastore, 1) := by decide +kernel
theorem d19_29 : decode prog_14_method_19_code 29 = .ok (.aload_n 0, 1) := by decide +kernel
theorem d19_30 : decode prog_14_method_19_code 30 = .ok (.getfield 70, 3) := by decide +kernel
theorem d19_33 : decode prog_14_method_19_code 33 = .ok (.iload_n 1, 1) := by decide +kernel
theorem d19_34 : decode prog_14_method_19_code 34 = .ok (.iconst 0, 1) := by decide +kernel
theorem d19_35 : decode prog_14_method_19_code 35 = .ok (.iastore, 1) := by decide +kernel
theorem d19_36 : decode prog_14_method_19_code 36 = .ok (.iconst 0, 1) := by decide +kernel
theorem d19_37 : decode prog_14_method_19_code 37 = .ok (.istore_n 2, 1) := by decide +kernel
theorem d19_38 : decode prog_14_method_19_code 38 = .ok (.iload_n 2, 1) := by decide +kernel
theorem d19_39 : decode prog_14_method_19_code 39 = .ok (.iconst 4, 1) := by decide +kernel
theorem d19_40 : decode prog_14_method_19_code 40 = .ok (.if_icmp .ge 31, 3) := by decide +kernel
theorem d19_43 : decode prog_14_method_19_code 43 = .ok (.aload_n 0, 1) := by decide +kernel
theorem d19_44 : decode prog_14_method_19_code 44 = .ok (.getfield 73, 3) := by decide +kernel
theorem d19_47 : decode prog_14_method_19_code 47 = .ok (.iconst 4, 1) := by decide +kernel
theorem d19_48 : decode prog_14_method_19_code 48 = .ok (.iload_n 1, 1) := by decide +kernel
theorem d19_49 : decode prog_14_method_19_code 49 = .ok (.imul, 1) := by decide +kernel
theorem d19_50 : decode prog_14_method_19_code 50 = .ok (.iload_n 2, 1) := by decide +kernel
theorem d19_51 : decode prog_14_method_19_code 51 = .ok (.iadd, 1) := by decide +kernel
theorem d19_52 : decode prog_14_method_19_code 52 = .ok (.iconst 0, 1) := by decide +kernel
theorem d19_53 : decode prog_14_method_19_code 53 = .ok (.iastore, 1) := by decide +kernel
theorem d19_54 : decode prog_14_method_19_code 54 = .ok (.aload_n 0, 1) := by decide +kernel
theorem d19_55 : decode prog_14_method_19_code 55 = .ok (.getfield 76, 3) := by decide +kernel
theorem d19_58 : decode prog_14_method_19_code 58 = .ok (.iconst 4, 1) := by decide +kernel
theorem d19_59 : decode prog_14_method_19_code 59 = .ok (.iload_n 1, 1) := by decide +kernel
theorem d19_60 : decode prog_14_method_19_code 60 = .ok (.imul, 1) := by decide +kernel
theorem d19_61 : decode prog_14_method_19_code 61 = .ok (.iload_n 2, 1) := by decide +kernel
theorem d19_62 : decode prog_14_method_19_code 62 = .ok (.iadd, 1) := by decide +kernel
theorem d19_63 : decode prog_14_method_19_code 63 = .ok (.iconst 0, 1) := by decide +kernel
theorem d19_64 : decode prog_14_method_19_code 64 = .ok (.iastore, 1) := by decide +kernel
theorem d19_65 : decode prog_14_method_19_code 65 = .ok (.iinc 2 1, 3) := by decide +kernel
theorem d19_68 : decode prog_14_method_19_code 68 = .ok (.goto (-30), 3) := by decide +kernel
theorem d19_71 : decode prog_14_method_19_code 71 = .ok (.return_, 1) := by decide +kernel
noncomputable def T_19 : Nat → Option xF := bn 36 (bn 18 (bn 8 (bn 5 (bn 1 (bl 0 (y_aload 0 1)) (bn 4 (bl 1 (y_getf 12 3 4)) (bl 4 (y_iload 1 5)))) (bn 6 (bl 5 (x_const 2147483648 6)) (bn 7 (bl 6 (y_iast 7)) (bl 7 (y_aload 0 8))))) (bn 13 (bn 11 (bl 8 (y_getf 12 4 11)) (bn 12 (bl 11 (y_iload 1 12)) (bl 12 (x_const 2147483648 13)))) (bn 14 (bl 13 (y_iast 14)) (bn 15 (bl 14 (y_aload 0 15)) (bl 15 (y_getf 12 40 18)))))) (bn 27 (bn 22 (bn 19 (bl 18 (y_iload 1 19)) (bn 21 (bl 19 (x_const 2147483668 21)) (bl 21 (y_iast 22)))) (bn 23 (bl 22 (y_aload 0 23)) (bn 26 (bl 23 (y_getf 12 9 26)) (bl 26 (y_iload 1 27))))) (bn 30 (bn 28 (bl 27 (x_const 2147483648 28)) (bn 29 (bl 28 (y_iast 29)) (bl 29 (y_aload 0 30)))) (bn 34 (bn 33 (bl 30 (y_getf 12 5 33)) (bl 33 (y_iload 1 34))) (bn 35 (bl 34 (x_const 2147483648 35)) (bl 35 (y_iast 36))))))) (bn 52 (bn 44 (bn 39 (bn 37 (bl 36 (x_const 2147483648 37)) (bn 38 (bl 37 (y_istore 2 38)) (bl 38 (y_iload 2 39)))) (bn 40 (bl 39 (x_const 2147483652 40)) (bn 43 (bl 40 (y_icmp yc3 71 43)) (bl 43 (y_aload 0 44))))) (bn 49 (bn 47 (bl 44 (y_getf 12 41 47)) (bn 48 (bl 47 (x_const 2147483652 48)) (bl 48 (y_iload 1 49)))) (bn 50 (bl 49 (y_bin (xfg (fun x y => x * y)) 50)) (bn 51 (bl 50 (y_iload 2 51)) (bl 51 (y_bin yadd 52)))))) (bn 60 (bn 55 (bn 53 (bl 52 (x_const 2147483648 53)) (bn 54 (bl 53 (y_iast 54)) (bl 54 (y_aload 0 55)))) (bn 58 (bl 55 (y_getf 12 42 58)) (bn 59 (bl 58 (x_const 2147483652 59)) (bl 59 (y_iload 1 60))))) (bn 63 (bn 61 (bl 60 (y_bin (xfg (fun x y => x * y)) 61)) (bn 62 (bl 61 (y_iload 2 62)) (bl 62 (y_bin yadd 63)))) (bn 65 (bn 64 (bl 63 (x_const 2147483648 64)) (bl 64 (y_iast 65))) (bn 68 (bl 65 (y_iinc 2 2147483649 68)) (bl 68 (x_goto 38)))))))
set_option maxRecDepth 100000 in
set_option maxHeartbeats 4000000 in
theorem T_19_ok (G : State → Nat → Nat → Prop) : xTree PX G prog_14_method_19_code "CapitalCaseModel" false T_19 := (xT_n (xT_n (xT_n (xT_n (xT_n (xT_l (yS (y_aload_eq _ _) (s_aload_n d19_0))) (xT_n (xT_l (yS (y_getf_eq _ _ _) (s_getf (T := TX12) (N := 70) d19_1 rfl inX12 (by decide) wd_1303))) (xT_l (yS (y_iload_eq _ _) (s_iload_n d19_4))))) (xT_n (xT_l (s_iconst d19_5 (by decide +kernel))) (xT_n (xT_l (yS (y_iast_eq _) (s_iast d19_6))) (xT_l (yS (y_aload_eq _ _) (s_aload_n d19_7)))))) (xT_n (xT_n (xT_l (yS (y_getf_eq _ _ _) (s_getf (T := TX12) (N := 70) d19_8 rfl inX12 (by decide) wd_1305))) (xT_n (xT_l (yS (y_iload_eq _ _) (s_iload_n d19_11))) (xT_l (s_iconst d19_12 (by decide +kernel))))) (xT_n (xT_l (yS (y_iast_eq _) (s_iast d19_13))) (xT_n (xT_l (yS (y_aload_eq _ _) (s_aload_n d19_14))) (xT_l (yS (y_getf_eq _ _ _) (s_getf (T := TX12) (N := 70) d19_15 rfl inX12 (by decide) wd_1310))))))) (xT_n (xT_n (xT_n (xT_l (yS (y_iload_eq _ _) (s_iload_n d19_18))) (xT_n (xT_l (s_bipush d19_19 (by decide +kernel))) (xT_l (yS (y_iast_eq _) (s_iast d19_21))))) (xT_n (xT_l (yS (y_aload_eq _ _) (s_aload_n d19_22))) (xT_n (xT_l (yS (y_getf_eq _ _ _) (s_getf (T := TX12) (N := 70) d19_23 rfl inX12 (by decide) wd_1311))) (xT_l (yS (y_iload_eq _ _) (s_iload_n d19_26)))))) (xT_n (xT_n (xT_l (s_iconst d19_27 (by decide +kernel))) (xT_n (xT_l (yS (y_iast_eq _) (s_iast d19_28))) (xT_l (yS (y_aload_eq _ _) (s_aload_n d19_29))))) (xT_n (xT_n (xT_l (yS (y_getf_eq _ _ _) (s_getf (T := TX12) (N := 70) d19_30 rfl inX12 (by decide) wd_1312))) (xT_l (yS (y_iload_eq _ _) (s_iload_n d19_33)))) (xT_n (xT_l (s_iconst d19_34 (by decide +kernel))) (xT_l (yS (y_iast_eq _) (s_iast d19_35)))))))) (xT_n (xT_n (xT_n (xT_n (xT_l (s_iconst d19_36 (by decide +kernel))) (xT_n (xT_l (yS (y_istore_eq _ _) (s_istore_n d19_37))) (xT_l (yS (y_iload_eq _ _) (s_iload_n d19_38))))) (xT_n (xT_l (s_iconst d19_39 (by decide +kernel))) (xT_n (xT_l (yS (y_icmp_eq yc3_eq _ _) (s_icmpge d19_40 (by decide +kernel)))) (xT_l (yS (y_aload_eq _ _) (s_aload_n d19_43)))))) (xT_n (xT_n (xT_l (yS (y_getf_eq _ _ _) (s_getf (T := TX12) (N := 70) d19_44 rfl inX12 (by decide) wd_1313))) (xT_n (xT_l (s_iconst d19_47 (by decide +kernel))) (xT_l (yS (y_iload_eq _ _) (s_iload_n d19_48))))) (xT_n (xT_l (yS (y_bin_eq _ _) (s_imul d19_49))) (xT_n (xT_l (yS (y_iload_eq _ _) (s_iload_n d19_50))) (xT_l (yS (y_bin_eq _ _) (s_iadd d19_51))))))) (xT_n (xT_n (xT_n (xT_l (s_iconst d19_52 (by decide +kernel))) (xT_n (xT_l (yS (y_iast_eq _) (s_iast d19_53))) (xT_l (yS (y_aload_eq _ _) (s_aload_n d19_54))))) (xT_n (xT_l (yS (y_getf_eq _ _ _) (s_getf (T := TX12) (N := 70) d19_55 rfl inX12 (by decide) wd_1314))) (xT_n (xT_l (s_iconst d19_58 (by decide +kernel))) (xT_l (yS (y_iload_eq _ _) (s_iload_n d19_59)))))) (xT_n (xT_n (xT_l (yS (y_bin_eq _ _) (s_imul d19_60))) (xT_n (xT_l (yS (y_iload_eq _ _) (s_iload_n d19_61))) (xT_l (yS (y_bin_eq _ _) (s_iadd d19_62))))) (xT_n (xT_n (xT_l (s_iconst d19_63 (by decide +kernel))) (xT_l (yS (y_iast_eq _) (s_iast d19_64)))) (xT_n (xT_l (yS (y_iinc_eq _ _ _) (s_iinc d19_65 (by decide +kernel)))) (xT_l (s_goto d19_68 (by decide +kernel)))))))))
set_option maxRecDepth 100000 in
set_option maxHeartbeats 4000000 in
theorem M_19 : xMeth PX 19 (T_19, 3, [(71, 3)]) := ⟨⟨"CapitalCaseModel", "plain", "(I)V"⟩, prog_14_method_19_code, none, rfl, by decide, fun G => T_19_ok G, xrt_ok (xR_c (Or.inr (Or.inr (Or.inl ⟨rfl, d19_71, rfl⟩))) (xR_n))⟩
theorem d20_0 : decode prog_14_method_10_code 0 = .ok (.lconst 0, 1) := by decide +kernel
theorem d20_1 : decode prog_14_method_10_code 1 = .ok (.iload_n 0, 1) := by decide +kernel
theorem d20_2 : decode prog_14_method_10_code 2 = .ok (.invokestatic 174, 3) := by decide +kernel
theorem d20_5 : decode prog_14_method_10_code 5 = .ok (.iload_n 1, 1) := by decide +kernel
theorem d20_6 : decode prog_14_method_10_code 6 = .ok (.invokestatic 174, 3) := by decide +kernel
theorem d20_9 : decode prog_14_method_10_code 9 = .ok (.iload_n 2, 1) := by decide +kernel
theorem d20_10 : decode prog_14_method_10_code 10 = .ok (.invokestatic 174, 3) := by decide +kernel
theorem d20_13 : decode prog_14_method_10_code 13 = .ok (.iload_n 3, 1) := by decide +kernel
theorem d20_14 : decode prog_14_method_10_code 14 = .ok (.invokestatic 174, 3) := by decide +kernel
theorem d20_17 : decode prog_14_method_10_code 17 = .ok (.iload 4, 2) := by decide +kernel
theorem d20_19 : decode prog_14_method_10_code 19 = .ok (.invokestatic 174, 3) := by decide +kernel
theorem d20_22 : decode prog_14_method_10_code 22 = .ok (.iload 5, 2) := by decide +kernel
theorem d20_24 : decode prog_14_method_10_code 24 = .ok (.invokestatic 174, 3) := by decide +kernel
theorem d20_27 : decode prog_14_method_10_code 27 = .ok (.iload 6, 2) := by decide +kernel
theorem d20_29 : decode prog_14_method_10_code 29 = .ok (.invokestatic 174, 3) := by decide +kernel
theorem d20_32 : decode prog_14_method_10_code 32 = .ok (.lreturn, 1) := by decide +kernel
noncomputable def T_20 : Nat → Option xF := bn 13 (bn 5 (bn 1 (bl 0 (x_lconst 0 1)) (bn 2 (bl 1 (y_iload 0 2)) (bl 2 (y_inv 16 2 5)))) (bn 9 (bn 6 (bl 5 (y_iload 1 6)) (bl 6 (y_inv 16 2 9))) (bn 10 (bl 9 (y_iload 2 10)) (bl 10 (y_inv 16 2 13))))) (bn 22 (bn 17 (bn 14 (bl 13 (y_iload 3 14)) (bl 14 (y_inv 16 2 17))) (bn 19 (bl 17 (y_iload 4 19)) (bl 19 (y_inv 16 2 22)))) (bn 27 (bn 24 (bl 22 (y_iload 5 24)) (bl 24 (y_inv 16 2 27))) (bn 29 (bl 27 (y_iload 6 29)) (bl 29 (y_inv 16 2 32)))))
set_option maxRecDepth 100000 in
set_option maxHeartbeats 4000000 in
theorem T_20_ok (G : State → Nat → Nat → Prop) : xTree PX G prog_14_method_10_code "CapitalCaseModel" false T_20 := (xT_n (xT_n (xT_n (xT_l (s_lconst d20_0 (by decide +kernel))) (xT_n (xT_l (yS (y_iload_eq _ _) (s_iload_n d20_1))) (xT_l (yS (y_inv_eq _ _ _) (s_invS d20_2 cal_16 wd_1270 wd_1271))))) (xT_n (xT_n (xT_l (yS (y_iload_eq _ _) (s_iload_n d20_5))) (xT_l (yS (y_inv_eq _ _ _) (s_invS d20_6 cal_16 wd_1270 wd_1271)))) (xT_n (xT_l (yS (y_iload_eq _ _) (s_iload_n d20_9))) (xT_l (yS (y_inv_eq _ _ _) (s_invS d20_10 cal_16 wd_1270 wd_1271)))))) (xT_n (xT_n (xT_n (xT_l (yS (y_iload_eq _ _) (s_iload_n d20_13))) (xT_l (yS (y_inv_eq _ _ _) (s_invS d20_14 cal_16 wd_1270 wd_1271)))) (xT_n (xT_l (yS (y_iload_eq _ _) (s_iload d20_17))) (xT_l (yS (y_inv_eq _ _ _) (s_invS d20_19 cal_16 wd_1270 wd_1271))))) (xT_n (xT_n (xT_l (yS (y_iload_eq _ _) (s_iload d20_22))) (xT_l (yS (y_inv_eq _ _ _) (s_invS d20_24 cal_16 wd_1270 wd_1271)))) (xT_n (xT_l (yS (y_iload_eq _ _) (s_iload d20_27))) (xT_l (yS (y_inv_eq _ _ _) (s_invS d20_29 cal_16 wd_1270 wd_1271)))))))
set_option maxRecDepth 100000 in
set_option maxHeartbeats 4000000 in
theorem M_20 : xMeth PX 20 (T_20, 7, [(32, 4)]) := ⟨⟨"CapitalCaseModel", "word", "(IIIIIII)J"⟩, prog_14_method_10_code, (some .long), rfl, by decide, fun G => T_20_ok G, xrt_ok (xR_c (Or.inr (Or.inr (Or.inr ⟨rfl, d20_32, rfl⟩))) (xR_n))⟩
theorem d21_0 : decode prog_22_method_103_code 0 = .ok (.iconst 0, 1) := by decide +kernel
theorem d21_1 : decode prog_22_method_103_code 1 = .ok (.istore_n 2, 1) := by decide +kernel
theorem d21_2 : decode prog_22_method_103_code 2 = .ok (.aload_n 0, 1) := by decide +kernel
theorem d21_3 : decode prog_22_method_103_code 3 = .ok (.arraylength, 1) := by decide +kernel
theorem d21_4 : decode prog_22_method_103_code 4 = .ok (.istore_n 3, 1) := by decide +kernel
theorem d21_5 : decode prog_22_method_103_code 5 = .ok (.iload_n 2, 1) := by decide +kernel
theorem d21_6 : decode prog_22_method_103_code 6 = .ok (.iload_n 3, 1) := by decide +kernel
theorem d21_7 : decode prog_22_method_103_code 7 = .ok (.if_icmp .ge 13, 3) := by decide +kernel
theorem d21_10 : decode prog_22_method_103_code 10 = .ok (.aload_n 0, 1) := by decide +kernel
theorem d21_11 : decode prog_22_method_103_code 11 = .ok (.iload_n 2, 1) := by decide +kernel
theorem d21_12 : decode prog_22_method_103_code 12 = .ok (.iload_n 1, 1) := by decide +kernel
theorem d21_13 : decode prog_22_method_103_code 13 = .ok (.iastore, 1) := by decide +kernel
theorem d21_14 : decode prog_22_method_103_code 14 = .ok (.iinc 2 1, 3) := by decide +kernel
theorem d21_17 : decode prog_22_method_103_code 17 = .ok (.goto (-12), 3) := by decide +kernel
theorem d21_20 : decode prog_22_method_103_code 20 = .ok (.return_, 1) := by decide +kernel
noncomputable def T_21 : Nat → Option xF := bn 7 (bn 3 (bn 1 (bl 0 (x_const 2147483648 1)) (bn 2 (bl 1 (y_istore 2 2)) (bl 2 (y_aload 0 3)))) (bn 5 (bn 4 (bl 3 (x_alen 4)) (bl 4 (y_istore 3 5))) (bn 6 (bl 5 (y_iload 2 6)) (bl 6 (y_iload 3 7))))) (bn 12 (bn 10 (bl 7 (y_icmp yc3 20 10)) (bn 11 (bl 10 (y_aload 0 11)) (bl 11 (y_iload 2 12)))) (bn 14 (bn 13 (bl 12 (y_iload 1 13)) (bl 13 (y_iast 14))) (bn 17 (bl 14 (y_iinc 2 2147483649 17)) (bl 17 (x_goto 5)))))
set_option maxRecDepth 100000 in
set_option maxHeartbeats 4000000 in
theorem T_21_ok (G : State → Nat → Nat → Prop) : xTree PX G prog_22_method_103_code "java/util/Arrays" false T_21 := (xT_n (xT_n (xT_n (xT_l (s_iconst d21_0 (by decide +kernel))) (xT_n (xT_l (yS (y_istore_eq _ _) (s_istore_n d21_1))) (xT_l (yS (y_aload_eq _ _) (s_aload_n d21_2))))) (xT_n (xT_n (xT_l (s_alen d21_3)) (xT_l (yS (y_istore_eq _ _) (s_istore_n d21_4)))) (xT_n (xT_l (yS (y_iload_eq _ _) (s_iload_n d21_5))) (xT_l (yS (y_iload_eq _ _) (s_iload_n d21_6)))))) (xT_n (xT_n (xT_l (yS (y_icmp_eq yc3_eq _ _) (s_icmpge d21_7 (by decide +kernel)))) (xT_n (xT_l (yS (y_aload_eq _ _) (s_aload_n d21_10))) (xT_l (yS (y_iload_eq _ _) (s_iload_n d21_11))))) (xT_n (xT_n (xT_l (yS (y_iload_eq _ _) (s_iload_n d21_12))) (xT_l (yS (y_iast_eq _) (s_iast d21_13)))) (xT_n (xT_l (yS (y_iinc_eq _ _ _) (s_iinc d21_14 (by decide +kernel)))) (xT_l (s_goto d21_17 (by decide +kernel)))))))
set_option maxRecDepth 100000 in
set_option maxHeartbeats 4000000 in
theorem M_21 : xMeth PX 21 (T_21, 4, [(20, 3)]) := ⟨⟨"java/util/Arrays", "fill", "([II)V"⟩, prog_22_method_103_code, none, rfl, by decide, fun G => T_21_ok G, xrt_ok (xR_c (Or.inr (Or.inr (Or.inl ⟨rfl, d21_20, rfl⟩))) (xR_n))⟩
