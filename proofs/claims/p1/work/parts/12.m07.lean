theorem d135_0 : decode prog_14_method_76_code 0 = .ok (.aload_n 0, 1) := by decide +kernel
theorem d135_1 : decode prog_14_method_76_code 1 = .ok (.getfield 248, 3) := by decide +kernel
theorem d135_4 : decode prog_14_method_76_code 4 = .ok (.bipush 30, 2) := by decide +kernel
theorem d135_6 : decode prog_14_method_76_code 6 = .ok (.if_icmp .ne 44, 3) := by decide +kernel
theorem d135_50 : decode prog_14_method_76_code 50 = .ok (.iconst 0, 1) := by decide +kernel
theorem d135_51 : decode prog_14_method_76_code 51 = .ok (.istore_n 1, 1) := by decide +kernel
theorem d135_52 : decode prog_14_method_76_code 52 = .ok (.iload_n 1, 1) := by decide +kernel
theorem d135_53 : decode prog_14_method_76_code 53 = .ok (.sipush 390, 3) := by decide +kernel
theorem d135_56 : decode prog_14_method_76_code 56 = .ok (.if_icmp .ge 30, 3) := by decide +kernel
theorem d135_59 : decode prog_14_method_76_code 59 = .ok (.aload_n 0, 1) := by decide +kernel
theorem d135_60 : decode prog_14_method_76_code 60 = .ok (.getfield 128, 3) := by decide +kernel
theorem d135_63 : decode prog_14_method_76_code 63 = .ok (.sipush 390, 3) := by decide +kernel
theorem d135_66 : decode prog_14_method_76_code 66 = .ok (.aload_n 0, 1) := by decide +kernel
theorem d135_67 : decode prog_14_method_76_code 67 = .ok (.getfield 248, 3) := by decide +kernel
theorem d135_70 : decode prog_14_method_76_code 70 = .ok (.imul, 1) := by decide +kernel
theorem d135_71 : decode prog_14_method_76_code 71 = .ok (.iload_n 1, 1) := by decide +kernel
theorem d135_72 : decode prog_14_method_76_code 72 = .ok (.iadd, 1) := by decide +kernel
theorem d135_73 : decode prog_14_method_76_code 73 = .ok (.aload_n 0, 1) := by decide +kernel
theorem d135_74 : decode prog_14_method_76_code 74 = .ok (.getfield 113, 3) := by decide +kernel
theorem d135_77 : decode prog_14_method_76_code 77 = .ok (.iload_n 1, 1) := by decide +kernel
theorem d135_78 : decode prog_14_method_76_code 78 = .ok (.iaload, 1) := by decide +kernel
theorem d135_79 : decode prog_14_method_76_code 79 = .ok (.iastore, 1) := by decide +kernel
theorem d135_80 : decode prog_14_method_76_code 80 = .ok (.iinc 1 1, 3) := by decide +kernel
theorem d135_83 : decode prog_14_method_76_code 83 = .ok (.goto (-31), 3) := by decide +kernel
theorem d135_86 : decode prog_14_method_76_code 86 = .ok (.aload_n 0, 1) := by decide +kernel
theorem d135_87 : decode prog_14_method_76_code 87 = .ok (.dup, 1) := by decide +kernel
theorem d135_88 : decode prog_14_method_76_code 88 = .ok (.getfield 248, 3) := by decide +kernel
theorem d135_91 : decode prog_14_method_76_code 91 = .ok (.iconst 1, 1) := by decide +kernel
theorem d135_92 : decode prog_14_method_76_code 92 = .ok (.iadd, 1) := by decide +kernel
theorem d135_93 : decode prog_14_method_76_code 93 = .ok (.putfield 248, 3) := by decide +kernel
theorem d135_96 : decode prog_14_method_76_code 96 = .ok (.aload_n 0, 1) := by decide +kernel
theorem d135_97 : decode prog_14_method_76_code 97 = .ok (.invokevirtual 160, 3) := by decide +kernel
theorem d135_100 : decode prog_14_method_76_code 100 = .ok (.return_, 1) := by decide +kernel
noncomputable def T_135 : Nat → Option xF := bn 72 (bn 56 (bn 50 (bn 4 (bn 1 (bl 0 (y_aload 0 1)) (bl 1 (y_getf 12 10 4))) (bn 6 (bl 4 (x_const 2147483678 6)) (bl 6 (y_icmp yc1 50 9)))) (bn 52 (bn 51 (bl 50 (x_const 2147483648 51)) (bl 51 (y_istore 1 52))) (bn 53 (bl 52 (y_iload 1 53)) (bl 53 (x_const 2147484038 56))))) (bn 66 (bn 60 (bn 59 (bl 56 (y_icmp yc3 86 59)) (bl 59 (y_aload 0 60))) (bn 63 (bl 60 (y_getf 12 11 63)) (bl 63 (x_const 2147484038 66)))) (bn 70 (bn 67 (bl 66 (y_aload 0 67)) (bl 67 (y_getf 12 10 70))) (bn 71 (bl 70 (y_bin (xfg (fun x y => x * y)) 71)) (bl 71 (y_iload 1 72)))))) (bn 86 (bn 78 (bn 74 (bn 73 (bl 72 (y_bin yadd 73)) (bl 73 (y_aload 0 74))) (bn 77 (bl 74 (y_getf 12 1 77)) (bl 77 (y_iload 1 78)))) (bn 80 (bn 79 (bl 78 (y_iald 79)) (bl 79 (y_iast 80))) (bn 83 (bl 80 (y_iinc 1 2147483649 83)) (bl 83 (x_goto 52))))) (bn 92 (bn 88 (bn 87 (bl 86 (y_aload 0 87)) (bl 87 (x_dup 88))) (bn 91 (bl 88 (y_getf 12 10 91)) (bl 91 (x_const 2147483649 92)))) (bn 96 (bn 93 (bl 92 (y_bin yadd 93)) (bl 93 (y_putf 12 10 0 96))) (bn 97 (bl 96 (y_aload 0 97)) (bl 97 (y_invV 12 122 1 100))))))
set_option maxRecDepth 100000 in
set_option maxHeartbeats 4000000 in
theorem T_135_ok (G : State → Nat → Nat → Prop) : xTree PX G prog_14_method_76_code "CapitalCaseModel" false T_135 := (xT_n (xT_n (xT_n (xT_n (xT_n (xT_l (yS (y_aload_eq _ _) (s_aload_n d135_0))) (xT_l (yS (y_getf_eq _ _ _) (s_getf (T := TX12) (N := 70) d135_1 rfl inX12 (by decide) wd_1340)))) (xT_n (xT_l (s_bipush d135_4 (by decide +kernel))) (xT_l (yS (y_icmp_eq yc1_eq _ _) (s_icmpne d135_6 (by decide +kernel)))))) (xT_n (xT_n (xT_l (s_iconst d135_50 (by decide +kernel))) (xT_l (yS (y_istore_eq _ _) (s_istore_n d135_51)))) (xT_n (xT_l (yS (y_iload_eq _ _) (s_iload_n d135_52))) (xT_l (s_sipush d135_53 (by decide +kernel)))))) (xT_n (xT_n (xT_n (xT_l (yS (y_icmp_eq yc3_eq _ _) (s_icmpge d135_56 (by decide +kernel)))) (xT_l (yS (y_aload_eq _ _) (s_aload_n d135_59)))) (xT_n (xT_l (yS (y_getf_eq _ _ _) (s_getf (T := TX12) (N := 70) d135_60 rfl inX12 (by decide) wd_1341))) (xT_l (s_sipush d135_63 (by decide +kernel))))) (xT_n (xT_n (xT_l (yS (y_aload_eq _ _) (s_aload_n d135_66))) (xT_l (yS (y_getf_eq _ _ _) (s_getf (T := TX12) (N := 70) d135_67 rfl inX12 (by decide) wd_1340)))) (xT_n (xT_l (yS (y_bin_eq _ _) (s_imul d135_70))) (xT_l (yS (y_iload_eq _ _) (s_iload_n d135_71))))))) (xT_n (xT_n (xT_n (xT_n (xT_l (yS (y_bin_eq _ _) (s_iadd d135_72))) (xT_l (yS (y_aload_eq _ _) (s_aload_n d135_73)))) (xT_n (xT_l (yS (y_getf_eq _ _ _) (s_getf (T := TX12) (N := 70) d135_74 rfl inX12 (by decide) wd_1331))) (xT_l (yS (y_iload_eq _ _) (s_iload_n d135_77))))) (xT_n (xT_n (xT_l (yS (y_iald_eq _) (s_iald d135_78))) (xT_l (yS (y_iast_eq _) (s_iast d135_79)))) (xT_n (xT_l (yS (y_iinc_eq _ _ _) (s_iinc d135_80 (by decide +kernel)))) (xT_l (s_goto d135_83 (by decide +kernel)))))) (xT_n (xT_n (xT_n (xT_l (yS (y_aload_eq _ _) (s_aload_n d135_86))) (xT_l (s_dup d135_87))) (xT_n (xT_l (yS (y_getf_eq _ _ _) (s_getf (T := TX12) (N := 70) d135_88 rfl inX12 (by decide) wd_1340))) (xT_l (s_iconst d135_91 (by decide +kernel))))) (xT_n (xT_n (xT_l (yS (y_bin_eq _ _) (s_iadd d135_92))) (xT_l (yS (y_putf_eq _ _ _ _) (s_putf (T := TX12) (N := 70) (ty := tyX12) d135_93 rfl inX12 tyX12_ok nmX12 (by decide) wd_1340 (Or.inl ⟨rfl, rfl⟩) rfl)))) (xT_n (xT_l (yS (y_aload_eq _ _) (s_aload_n d135_96))) (xT_l (yS (y_invV_eq _ _ _ _) (s_invV (T := TX12) d135_97 cal_122 rfl wd_1278 wd_1280 wd_46))))))))
set_option maxRecDepth 100000 in
set_option maxHeartbeats 4000000 in
theorem M_135 : xMeth PX 135 (T_135, 2, [(100, 3)]) := ⟨⟨"CapitalCaseModel", "records", "()V"⟩, prog_14_method_76_code, none, rfl, by decide, fun G => T_135_ok G, xrt_ok (xR_c (Or.inr (Or.inr (Or.inl ⟨rfl, d135_100, rfl⟩))) (xR_n))⟩
theorem d136_0 : decode prog_14_method_112_code 0 = .ok (.iload_n 1, 1) := by decide +kernel
theorem d136_1 : decode prog_14_method_112_code 1 = .ok (.iconst 0, 1) := by decide +kernel
theorem d136_2 : decode prog_14_method_112_code 2 = .ok (.iconst 2, 1) := by decide +kernel
theorem d136_3 : decode prog_14_method_112_code 3 = .ok (.invokestatic 324, 3) := by decide +kernel
theorem d136_6 : decode prog_14_method_112_code 6 = .ok (.ifCond .eq 12, 3) := by decide +kernel
theorem d136_9 : decode prog_14_method_112_code 9 = .ok (.aload_n 0, 1) := by decide +kernel
theorem d136_10 : decode prog_14_method_112_code 10 = .ok (.getfield 143, 3) := by decide +kernel
theorem d136_13 : decode prog_14_method_112_code 13 = .ok (.iload_n 1, 1) := by decide +kernel
theorem d136_14 : decode prog_14_method_112_code 14 = .ok (.baload, 1) := by decide +kernel
theorem d136_15 : decode prog_14_method_112_code 15 = .ok (.ifCond .ne 5, 3) := by decide +kernel
theorem d136_18 : decode prog_14_method_112_code 18 = .ok (.iconst 0, 1) := by decide +kernel
theorem d136_19 : decode prog_14_method_112_code 19 = .ok (.ireturn, 1) := by decide +kernel
noncomputable def T_136 : Nat → Option xF := bn 9 (bn 2 (bn 1 (bl 0 (y_iload 1 1)) (bl 1 (x_const 2147483648 2))) (bn 3 (bl 2 (x_const 2147483650 3)) (bn 6 (bl 3 (y_inv 115 3 6)) (bl 6 (y_if yc0 18 9))))) (bn 14 (bn 10 (bl 9 (y_aload 0 10)) (bn 13 (bl 10 (y_getf 12 68 13)) (bl 13 (y_iload 1 14)))) (bn 15 (bl 14 (x_bald 15)) (bn 18 (bl 15 (y_if yc1 20 18)) (bl 18 (x_const 2147483648 19)))))
set_option maxRecDepth 100000 in
set_option maxHeartbeats 4000000 in
theorem T_136_ok (G : State → Nat → Nat → Prop) : xTree PX G prog_14_method_112_code "CapitalCaseModel" false T_136 := (xT_n (xT_n (xT_n (xT_l (yS (y_iload_eq _ _) (s_iload_n d136_0))) (xT_l (s_iconst d136_1 (by decide +kernel)))) (xT_n (xT_l (s_iconst d136_2 (by decide +kernel))) (xT_n (xT_l (yS (y_inv_eq _ _ _) (s_invS d136_3 cal_115 wd_1629 wd_1630))) (xT_l (yS (y_if_eq yc0_eq _ _) (s_ifeq d136_6 (by decide +kernel))))))) (xT_n (xT_n (xT_l (yS (y_aload_eq _ _) (s_aload_n d136_9))) (xT_n (xT_l (yS (y_getf_eq _ _ _) (s_getf (T := TX12) (N := 70) d136_10 rfl inX12 (by decide) wd_1349))) (xT_l (yS (y_iload_eq _ _) (s_iload_n d136_13))))) (xT_n (xT_l (s_bald d136_14)) (xT_n (xT_l (yS (y_if_eq yc1_eq _ _) (s_ifne d136_15 (by decide +kernel)))) (xT_l (s_iconst d136_18 (by decide +kernel)))))))
set_option maxRecDepth 100000 in
set_option maxHeartbeats 4000000 in
theorem M_136 : xMeth PX 136 (T_136, 3, [(19, 2)]) := ⟨⟨"CapitalCaseModel", "restore", "(I)Z"⟩, prog_14_method_112_code, (some .boolean), rfl, by decide, fun G => T_136_ok G, xrt_ok (xR_c (Or.inr (Or.inl ⟨rfl, d136_19, rfl⟩)) (xR_n))⟩
theorem d137_0 : decode prog_14_method_77_code 0 = .ok (.aload_n 0, 1) := by decide +kernel
theorem d137_1 : decode prog_14_method_77_code 1 = .ok (.iload_n 1, 1) := by decide +kernel
theorem d137_2 : decode prog_14_method_77_code 2 = .ok (.invokevirtual 417, 3) := by decide +kernel
theorem d137_5 : decode prog_14_method_77_code 5 = .ok (.ifCond .ne 5, 3) := by decide +kernel
theorem d137_8 : decode prog_14_method_77_code 8 = .ok (.iconst 0, 1) := by decide +kernel
theorem d137_9 : decode prog_14_method_77_code 9 = .ok (.ireturn, 1) := by decide +kernel
noncomputable def T_137 : Nat → Option xF := bn 2 (bn 1 (bl 0 (y_aload 0 1)) (bl 1 (y_iload 1 2))) (bn 5 (bl 2 (y_invV 12 120 2 5)) (bn 8 (bl 5 (y_if yc1 10 8)) (bl 8 (x_const 2147483648 9))))
set_option maxRecDepth 100000 in
set_option maxHeartbeats 4000000 in
theorem T_137_ok (G : State → Nat → Nat → Prop) : xTree PX G prog_14_method_77_code "CapitalCaseModel" false T_137 := (xT_n (xT_n (xT_l (yS (y_aload_eq _ _) (s_aload_n d137_0))) (xT_l (yS (y_iload_eq _ _) (s_iload_n d137_1)))) (xT_n (xT_l (yS (y_invV_eq _ _ _ _) (s_invV (T := TX12) d137_2 cal_120 rfl wd_1678 wd_1680 wd_82))) (xT_n (xT_l (yS (y_if_eq yc1_eq _ _) (s_ifne d137_5 (by decide +kernel)))) (xT_l (s_iconst d137_8 (by decide +kernel))))))
set_option maxRecDepth 100000 in
set_option maxHeartbeats 4000000 in
theorem M_137 : xMeth PX 137 (T_137, 2, [(9, 2)]) := ⟨⟨"CapitalCaseModel", "set", "(I)Z"⟩, prog_14_method_77_code, (some .boolean), rfl, by decide, fun G => T_137_ok G, xrt_ok (xR_c (Or.inr (Or.inl ⟨rfl, d137_9, rfl⟩)) (xR_n))⟩
theorem d138_0 : decode prog_14_method_98_code 0 = .ok (.iload_n 1, 1) := by decide +kernel
theorem d138_1 : decode prog_14_method_98_code 1 = .ok (.iconst 0, 1) := by decide +kernel
theorem d138_2 : decode prog_14_method_98_code 2 = .ok (.sipush 255, 3) := by decide +kernel
theorem d138_5 : decode prog_14_method_98_code 5 = .ok (.invokestatic 324, 3) := by decide +kernel
theorem d138_8 : decode prog_14_method_98_code 8 = .ok (.ifCond .ne 5, 3) := by decide +kernel
theorem d138_11 : decode prog_14_method_98_code 11 = .ok (.iconst (-1), 1) := by decide +kernel
theorem d138_12 : decode prog_14_method_98_code 12 = .ok (.ireturn, 1) := by decide +kernel
theorem d138_13 : decode prog_14_method_98_code 13 = .ok (.aload_n 0, 1) := by decide +kernel
theorem d138_14 : decode prog_14_method_98_code 14 = .ok (.invokevirtual 411, 3) := by decide +kernel
theorem d138_17 : decode prog_14_method_98_code 17 = .ok (.aload_n 0, 1) := by decide +kernel
theorem d138_18 : decode prog_14_method_98_code 18 = .ok (.invokevirtual 436, 3) := by decide +kernel
theorem d138_21 : decode prog_14_method_98_code 21 = .ok (.istore_n 2, 1) := by decide +kernel
theorem d138_22 : decode prog_14_method_98_code 22 = .ok (.iconst 0, 1) := by decide +kernel
theorem d138_23 : decode prog_14_method_98_code 23 = .ok (.istore_n 3, 1) := by decide +kernel
theorem d138_24 : decode prog_14_method_98_code 24 = .ok (.iload_n 3, 1) := by decide +kernel
theorem d138_25 : decode prog_14_method_98_code 25 = .ok (.aload_n 0, 1) := by decide +kernel
theorem d138_26 : decode prog_14_method_98_code 26 = .ok (.getfield 49, 3) := by decide +kernel
theorem d138_29 : decode prog_14_method_98_code 29 = .ok (.aload_n 0, 1) := by decide +kernel
theorem d138_30 : decode prog_14_method_98_code 30 = .ok (.getfield 230, 3) := by decide +kernel
theorem d138_33 : decode prog_14_method_98_code 33 = .ok (.iaload, 1) := by decide +kernel
theorem d138_34 : decode prog_14_method_98_code 34 = .ok (.if_icmp .ge 53, 3) := by decide +kernel
theorem d138_87 : decode prog_14_method_98_code 87 = .ok (.iload_n 2, 1) := by decide +kernel
theorem d138_88 : decode prog_14_method_98_code 88 = .ok (.ireturn, 1) := by decide +kernel
noncomputable def T_138 : Nat → Option xF := bn 21 (bn 11 (bn 2 (bn 1 (bl 0 (y_iload 1 1)) (bl 1 (x_const 2147483648 2))) (bn 5 (bl 2 (x_const 2147483903 5)) (bn 8 (bl 5 (y_inv 115 3 8)) (bl 8 (y_if yc1 13 11))))) (bn 14 (bn 13 (bl 11 (x_const 2147483647 12)) (bl 13 (y_aload 0 14))) (bn 17 (bl 14 (y_invV 12 101 1 17)) (bn 18 (bl 17 (y_aload 0 18)) (bl 18 (y_invV 12 128 1 21)))))) (bn 26 (bn 23 (bn 22 (bl 21 (y_istore 2 22)) (bl 22 (x_const 2147483648 23))) (bn 24 (bl 23 (y_istore 3 24)) (bn 25 (bl 24 (y_iload 3 25)) (bl 25 (y_aload 0 26))))) (bn 33 (bn 29 (bl 26 (y_getf 12 4 29)) (bn 30 (bl 29 (y_aload 0 30)) (bl 30 (y_getf 12 2 33)))) (bn 34 (bl 33 (y_iald 34)) (bn 87 (bl 34 (y_icmp yc3 87 37)) (bl 87 (y_iload 2 88))))))
set_option maxRecDepth 100000 in
set_option maxHeartbeats 4000000 in
theorem T_138_ok (G : State → Nat → Nat → Prop) : xTree PX G prog_14_method_98_code "CapitalCaseModel" false T_138 := (xT_n (xT_n (xT_n (xT_n (xT_l (yS (y_iload_eq _ _) (s_iload_n d138_0))) (xT_l (s_iconst d138_1 (by decide +kernel)))) (xT_n (xT_l (s_sipush d138_2 (by decide +kernel))) (xT_n (xT_l (yS (y_inv_eq _ _ _) (s_invS d138_5 cal_115 wd_1629 wd_1630))) (xT_l (yS (y_if_eq yc1_eq _ _) (s_ifne d138_8 (by decide +kernel))))))) (xT_n (xT_n (xT_l (s_iconst d138_11 (by decide +kernel))) (xT_l (yS (y_aload_eq _ _) (s_aload_n d138_13)))) (xT_n (xT_l (yS (y_invV_eq _ _ _ _) (s_invV (T := TX12) d138_14 cal_101 rfl wd_1635 wd_1637 wd_73))) (xT_n (xT_l (yS (y_aload_eq _ _) (s_aload_n d138_17))) (xT_l (yS (y_invV_eq _ _ _ _) (s_invV (T := TX12) d138_18 cal_128 rfl wd_1798 wd_1800 wd_100))))))) (xT_n (xT_n (xT_n (xT_l (yS (y_istore_eq _ _) (s_istore_n d138_21))) (xT_l (s_iconst d138_22 (by decide +kernel)))) (xT_n (xT_l (yS (y_istore_eq _ _) (s_istore_n d138_23))) (xT_n (xT_l (yS (y_iload_eq _ _) (s_iload_n d138_24))) (xT_l (yS (y_aload_eq _ _) (s_aload_n d138_25)))))) (xT_n (xT_n (xT_l (yS (y_getf_eq _ _ _) (s_getf (T := TX12) (N := 70) d138_26 rfl inX12 (by decide) wd_1305))) (xT_n (xT_l (yS (y_aload_eq _ _) (s_aload_n d138_29))) (xT_l (yS (y_getf_eq _ _ _) (s_getf (T := TX12) (N := 70) d138_30 rfl inX12 (by decide) wd_1299))))) (xT_n (xT_l (yS (y_iald_eq _) (s_iald d138_33))) (xT_n (xT_l (yS (y_icmp_eq yc3_eq _ _) (s_icmpge d138_34 (by decide +kernel)))) (xT_l (yS (y_iload_eq _ _) (s_iload_n d138_87))))))))
set_option maxRecDepth 100000 in
set_option maxHeartbeats 4000000 in
theorem M_138 : xMeth PX 138 (T_138, 5, [(12, 1), (88, 1)]) := ⟨⟨"CapitalCaseModel", "strike", "(I)I"⟩, prog_14_method_98_code, (some .int), rfl, by decide, fun G => T_138_ok G, xrt_ok (xR_c (Or.inl ⟨rfl, d138_12, rfl⟩) (xR_c (Or.inl ⟨rfl, d138_88, rfl⟩) (xR_n)))⟩
theorem d139_0 : decode prog_14_method_113_code 0 = .ok (.iconst 0, 1) := by decide +kernel
theorem d139_1 : decode prog_14_method_113_code 1 = .ok (.istore_n 3, 1) := by decide +kernel
theorem d139_2 : decode prog_14_method_113_code 2 = .ok (.iload_n 1, 1) := by decide +kernel
theorem d139_3 : decode prog_14_method_113_code 3 = .ok (.istore 4, 2) := by decide +kernel
theorem d139_5 : decode prog_14_method_113_code 5 = .ok (.iload 4, 2) := by decide +kernel
theorem d139_7 : decode prog_14_method_113_code 7 = .ok (.iload_n 1, 1) := by decide +kernel
theorem d139_8 : decode prog_14_method_113_code 8 = .ok (.iload_n 2, 1) := by decide +kernel
theorem d139_9 : decode prog_14_method_113_code 9 = .ok (.iadd, 1) := by decide +kernel
theorem d139_10 : decode prog_14_method_113_code 10 = .ok (.if_icmp .ge 19, 3) := by decide +kernel
theorem d139_13 : decode prog_14_method_113_code 13 = .ok (.iload_n 3, 1) := by decide +kernel
theorem d139_14 : decode prog_14_method_113_code 14 = .ok (.aload_n 0, 1) := by decide +kernel
theorem d139_15 : decode prog_14_method_113_code 15 = .ok (.getfield 113, 3) := by decide +kernel
theorem d139_18 : decode prog_14_method_113_code 18 = .ok (.iload 4, 2) := by decide +kernel
theorem d139_20 : decode prog_14_method_113_code 20 = .ok (.iaload, 1) := by decide +kernel
theorem d139_21 : decode prog_14_method_113_code 21 = .ok (.iadd, 1) := by decide +kernel
theorem d139_22 : decode prog_14_method_113_code 22 = .ok (.istore_n 3, 1) := by decide +kernel
theorem d139_23 : decode prog_14_method_113_code 23 = .ok (.iinc 4 1, 3) := by decide +kernel
theorem d139_26 : decode prog_14_method_113_code 26 = .ok (.goto (-21), 3) := by decide +kernel
theorem d139_29 : decode prog_14_method_113_code 29 = .ok (.iload_n 3, 1) := by decide +kernel
theorem d139_30 : decode prog_14_method_113_code 30 = .ok (.ireturn, 1) := by decide +kernel
noncomputable def T_139 : Nat → Option xF := bn 13 (bn 5 (bn 2 (bn 1 (bl 0 (x_const 2147483648 1)) (bl 1 (y_istore 3 2))) (bn 3 (bl 2 (y_iload 1 3)) (bl 3 (y_istore 4 5)))) (bn 8 (bn 7 (bl 5 (y_iload 4 7)) (bl 7 (y_iload 1 8))) (bn 9 (bl 8 (y_iload 2 9)) (bn 10 (bl 9 (y_bin yadd 10)) (bl 10 (y_icmp yc3 29 13)))))) (bn 21 (bn 15 (bn 14 (bl 13 (y_iload 3 14)) (bl 14 (y_aload 0 15))) (bn 18 (bl 15 (y_getf 12 1 18)) (bn 20 (bl 18 (y_iload 4 20)) (bl 20 (y_iald 21))))) (bn 23 (bn 22 (bl 21 (y_bin yadd 22)) (bl 22 (y_istore 3 23))) (bn 26 (bl 23 (y_iinc 4 2147483649 26)) (bn 29 (bl 26 (x_goto 5)) (bl 29 (y_iload 3 30))))))
set_option maxRecDepth 100000 in
set_option maxHeartbeats 4000000 in
theorem T_139_ok (G : State → Nat → Nat → Prop) : xTree PX G prog_14_method_113_code "CapitalCaseModel" false T_139 := (xT_n (xT_n (xT_n (xT_n (xT_l (s_iconst d139_0 (by decide +kernel))) (xT_l (yS (y_istore_eq _ _) (s_istore_n d139_1)))) (xT_n (xT_l (yS (y_iload_eq _ _) (s_iload_n d139_2))) (xT_l (yS (y_istore_eq _ _) (s_istore d139_3))))) (xT_n (xT_n (xT_l (yS (y_iload_eq _ _) (s_iload d139_5))) (xT_l (yS (y_iload_eq _ _) (s_iload_n d139_7)))) (xT_n (xT_l (yS (y_iload_eq _ _) (s_iload_n d139_8))) (xT_n (xT_l (yS (y_bin_eq _ _) (s_iadd d139_9))) (xT_l (yS (y_icmp_eq yc3_eq _ _) (s_icmpge d139_10 (by decide +kernel)))))))) (xT_n (xT_n (xT_n (xT_l (yS (y_iload_eq _ _) (s_iload_n d139_13))) (xT_l (yS (y_aload_eq _ _) (s_aload_n d139_14)))) (xT_n (xT_l (yS (y_getf_eq _ _ _) (s_getf (T := TX12) (N := 70) d139_15 rfl inX12 (by decide) wd_1331))) (xT_n (xT_l (yS (y_iload_eq _ _) (s_iload d139_18))) (xT_l (yS (y_iald_eq _) (s_iald d139_20)))))) (xT_n (xT_n (xT_l (yS (y_bin_eq _ _) (s_iadd d139_21))) (xT_l (yS (y_istore_eq _ _) (s_istore_n d139_22)))) (xT_n (xT_l (yS (y_iinc_eq _ _ _) (s_iinc d139_23 (by decide +kernel)))) (xT_n (xT_l (s_goto d139_26 (by decide +kernel))) (xT_l (yS (y_iload_eq _ _) (s_iload_n d139_29))))))))
set_option maxRecDepth 100000 in
set_option maxHeartbeats 4000000 in
theorem M_139 : xMeth PX 139 (T_139, 5, [(30, 1)]) := ⟨⟨"CapitalCaseModel", "sumNow", "(II)I"⟩, prog_14_method_113_code, (some .int), rfl, by decide, fun G => T_139_ok G, xrt_ok (xR_c (Or.inl ⟨rfl, d139_30, rfl⟩) (xR_n))⟩
theorem d140_0 : decode prog_14_method_106_code 0 = .ok (.aload_n 0, 1) := by decide +kernel
theorem d140_1 : decode prog_14_method_106_code 1 = .ok (.getfield 251, 3) := by decide +kernel
theorem d140_4 : decode prog_14_method_106_code 4 = .ok (.bipush 20, 2) := by decide +kernel
theorem d140_6 : decode prog_14_method_106_code 6 = .ok (.if_icmp .eq 21, 3) := by decide +kernel
theorem d140_9 : decode prog_14_method_106_code 9 = .ok (.iload_n 1, 1) := by decide +kernel
theorem d140_10 : decode prog_14_method_106_code 10 = .ok (.invokestatic 408, 3) := by decide +kernel
theorem d140_13 : decode prog_14_method_106_code 13 = .ok (.ifCond .eq 14, 3) := by decide +kernel
theorem d140_16 : decode prog_14_method_106_code 16 = .ok (.iload_n 2, 1) := by decide +kernel
theorem d140_17 : decode prog_14_method_106_code 17 = .ok (.iconst 0, 1) := by decide +kernel
theorem d140_18 : decode prog_14_method_106_code 18 = .ok (.sipush 999, 3) := by decide +kernel
theorem d140_21 : decode prog_14_method_106_code 21 = .ok (.invokestatic 324, 3) := by decide +kernel
theorem d140_24 : decode prog_14_method_106_code 24 = .ok (.ifCond .ne 5, 3) := by decide +kernel
theorem d140_27 : decode prog_14_method_106_code 27 = .ok (.iconst (-1), 1) := by decide +kernel
theorem d140_28 : decode prog_14_method_106_code 28 = .ok (.ireturn, 1) := by decide +kernel
theorem d140_29 : decode prog_14_method_106_code 29 = .ok (.aload_n 0, 1) := by decide +kernel
theorem d140_30 : decode prog_14_method_106_code 30 = .ok (.getfield 134, 3) := by decide +kernel
theorem d140_33 : decode prog_14_method_106_code 33 = .ok (.aload_n 0, 1) := by decide +kernel
theorem d140_34 : decode prog_14_method_106_code 34 = .ok (.getfield 251, 3) := by decide +kernel
theorem d140_37 : decode prog_14_method_106_code 37 = .ok (.iload_n 1, 1) := by decide +kernel
theorem d140_38 : decode prog_14_method_106_code 38 = .ok (.iastore, 1) := by decide +kernel
theorem d140_39 : decode prog_14_method_106_code 39 = .ok (.aload_n 0, 1) := by decide +kernel
theorem d140_40 : decode prog_14_method_106_code 40 = .ok (.getfield 137, 3) := by decide +kernel
theorem d140_43 : decode prog_14_method_106_code 43 = .ok (.aload_n 0, 1) := by decide +kernel
theorem d140_44 : decode prog_14_method_106_code 44 = .ok (.getfield 251, 3) := by decide +kernel
theorem d140_47 : decode prog_14_method_106_code 47 = .ok (.iload_n 2, 1) := by decide +kernel
theorem d140_48 : decode prog_14_method_106_code 48 = .ok (.iastore, 1) := by decide +kernel
theorem d140_49 : decode prog_14_method_106_code 49 = .ok (.aload_n 0, 1) := by decide +kernel
theorem d140_50 : decode prog_14_method_106_code 50 = .ok (.getfield 140, 3) := by decide +kernel
theorem d140_53 : decode prog_14_method_106_code 53 = .ok (.aload_n 0, 1) := by decide +kernel
theorem d140_54 : decode prog_14_method_106_code 54 = .ok (.getfield 251, 3) := by decide +kernel
theorem d140_57 : decode prog_14_method_106_code 57 = .ok (.iload_n 3, 1) := by decide +kernel
theorem d140_58 : decode prog_14_method_106_code 58 = .ok (.bastore, 1) := by decide +kernel
theorem d140_59 : decode prog_14_method_106_code 59 = .ok (.aload_n 0, 1) := by decide +kernel
theorem d140_60 : decode prog_14_method_106_code 60 = .ok (.dup, 1) := by decide +kernel
theorem d140_61 : decode prog_14_method_106_code 61 = .ok (.getfield 251, 3) := by decide +kernel
theorem d140_64 : decode prog_14_method_106_code 64 = .ok (.iconst 1, 1) := by decide +kernel
theorem d140_65 : decode prog_14_method_106_code 65 = .ok (.iadd, 1) := by decide +kernel
theorem d140_66 : decode prog_14_method_106_code 66 = .ok (.putfield 251, 3) := by decide +kernel
theorem d140_69 : decode prog_14_method_106_code 69 = .ok (.aload_n 0, 1) := by decide +kernel
theorem d140_70 : decode prog_14_method_106_code 70 = .ok (.getfield 251, 3) := by decide +kernel
theorem d140_73 : decode prog_14_method_106_code 73 = .ok (.iconst 1, 1) := by decide +kernel
theorem d140_74 : decode prog_14_method_106_code 74 = .ok (.isub, 1) := by decide +kernel
theorem d140_75 : decode prog_14_method_106_code 75 = .ok (.ireturn, 1) := by decide +kernel
noncomputable def T_140 : Nat → Option xF := bn 40 (bn 21 (bn 10 (bn 4 (bn 1 (bl 0 (y_aload 0 1)) (bl 1 (y_getf 12 64 4))) (bn 6 (bl 4 (x_const 2147483668 6)) (bn 9 (bl 6 (y_icmp yc0 27 9)) (bl 9 (y_iload 1 10))))) (bn 16 (bn 13 (bl 10 (y_inv 119 1 13)) (bl 13 (y_if yc0 27 16))) (bn 17 (bl 16 (y_iload 2 17)) (bn 18 (bl 17 (x_const 2147483648 18)) (bl 18 (x_const 2147484647 21)))))) (bn 33 (bn 27 (bn 24 (bl 21 (y_inv 115 3 24)) (bl 24 (y_if yc1 29 27))) (bn 29 (bl 27 (x_const 2147483647 28)) (bn 30 (bl 29 (y_aload 0 30)) (bl 30 (y_getf 12 65 33))))) (bn 37 (bn 34 (bl 33 (y_aload 0 34)) (bl 34 (y_getf 12 64 37))) (bn 38 (bl 37 (y_iload 1 38)) (bn 39 (bl 38 (y_iast 39)) (bl 39 (y_aload 0 40))))))) (bn 58 (bn 49 (bn 44 (bn 43 (bl 40 (y_getf 12 66 43)) (bl 43 (y_aload 0 44))) (bn 47 (bl 44 (y_getf 12 64 47)) (bn 48 (bl 47 (y_iload 2 48)) (bl 48 (y_iast 49))))) (bn 53 (bn 50 (bl 49 (y_aload 0 50)) (bl 50 (y_getf 12 67 53))) (bn 54 (bl 53 (y_aload 0 54)) (bn 57 (bl 54 (y_getf 12 64 57)) (bl 57 (y_iload 3 58)))))) (bn 65 (bn 60 (bn 59 (bl 58 (x_bast 59)) (bl 59 (y_aload 0 60))) (bn 61 (bl 60 (x_dup 61)) (bn 64 (bl 61 (y_getf 12 64 64)) (bl 64 (x_const 2147483649 65))))) (bn 70 (bn 66 (bl 65 (y_bin yadd 66)) (bn 69 (bl 66 (y_putf 12 64 0 69)) (bl 69 (y_aload 0 70)))) (bn 73 (bl 70 (y_getf 12 64 73)) (bn 74 (bl 73 (x_const 2147483649 74)) (bl 74 (y_bin ysub 75)))))))
set_option maxRecDepth 100000 in
set_option maxHeartbeats 4000000 in
theorem T_140_ok (G : State → Nat → Nat → Prop) : xTree PX G prog_14_method_106_code "CapitalCaseModel" false T_140 := (xT_n (xT_n (xT_n (xT_n (xT_n (xT_l (yS (y_aload_eq _ _) (s_aload_n d140_0))) (xT_l (yS (y_getf_eq _ _ _) (s_getf (T := TX12) (N := 70) d140_1 rfl inX12 (by decide) wd_1345)))) (xT_n (xT_l (s_bipush d140_4 (by decide +kernel))) (xT_n (xT_l (yS (y_icmp_eq yc0_eq _ _) (s_icmpeq d140_6 (by decide +kernel)))) (xT_l (yS (y_iload_eq _ _) (s_iload_n d140_9)))))) (xT_n (xT_n (xT_l (yS (y_inv_eq _ _ _) (s_invS d140_10 cal_119 wd_1632 wd_1633))) (xT_l (yS (y_if_eq yc0_eq _ _) (s_ifeq d140_13 (by decide +kernel))))) (xT_n (xT_l (yS (y_iload_eq _ _) (s_iload_n d140_16))) (xT_n (xT_l (s_iconst d140_17 (by decide +kernel))) (xT_l (s_sipush d140_18 (by decide +kernel))))))) (xT_n (xT_n (xT_n (xT_l (yS (y_inv_eq _ _ _) (s_invS d140_21 cal_115 wd_1629 wd_1630))) (xT_l (yS (y_if_eq yc1_eq _ _) (s_ifne d140_24 (by decide +kernel))))) (xT_n (xT_l (s_iconst d140_27 (by decide +kernel))) (xT_n (xT_l (yS (y_aload_eq _ _) (s_aload_n d140_29))) (xT_l (yS (y_getf_eq _ _ _) (s_getf (T := TX12) (N := 70) d140_30 rfl inX12 (by decide) wd_1346)))))) (xT_n (xT_n (xT_l (yS (y_aload_eq _ _) (s_aload_n d140_33))) (xT_l (yS (y_getf_eq _ _ _) (s_getf (T := TX12) (N := 70) d140_34 rfl inX12 (by decide) wd_1345)))) (xT_n (xT_l (yS (y_iload_eq _ _) (s_iload_n d140_37))) (xT_n (xT_l (yS (y_iast_eq _) (s_iast d140_38))) (xT_l (yS (y_aload_eq _ _) (s_aload_n d140_39)))))))) (xT_n (xT_n (xT_n (xT_n (xT_l (yS (y_getf_eq _ _ _) (s_getf (T := TX12) (N := 70) d140_40 rfl inX12 (by decide) wd_1347))) (xT_l (yS (y_aload_eq _ _) (s_aload_n d140_43)))) (xT_n (xT_l (yS (y_getf_eq _ _ _) (s_getf (T := TX12) (N := 70) d140_44 rfl inX12 (by decide) wd_1345))) (xT_n (xT_l (yS (y_iload_eq _ _) (s_iload_n d140_47))) (xT_l (yS (y_iast_eq _) (s_iast d140_48)))))) (xT_n (xT_n (xT_l (yS (y_aload_eq _ _) (s_aload_n d140_49))) (xT_l (yS (y_getf_eq _ _ _) (s_getf (T := TX12) (N := 70) d140_50 rfl inX12 (by decide) wd_1348)))) (xT_n (xT_l (yS (y_aload_eq _ _) (s_aload_n d140_53))) (xT_n (xT_l (yS (y_getf_eq _ _ _) (s_getf (T := TX12) (N := 70) d140_54 rfl inX12 (by decide) wd_1345))) (xT_l (yS (y_iload_eq _ _) (s_iload_n d140_57))))))) (xT_n (xT_n (xT_n (xT_l (s_bast d140_58)) (xT_l (yS (y_aload_eq _ _) (s_aload_n d140_59)))) (xT_n (xT_l (s_dup d140_60)) (xT_n (xT_l (yS (y_getf_eq _ _ _) (s_getf (T := TX12) (N := 70) d140_61 rfl inX12 (by decide) wd_1345))) (xT_l (s_iconst d140_64 (by decide +kernel)))))) (xT_n (xT_n (xT_l (yS (y_bin_eq _ _) (s_iadd d140_65))) (xT_n (xT_l (yS (y_putf_eq _ _ _ _) (s_putf (T := TX12) (N := 70) (ty := tyX12) d140_66 rfl inX12 tyX12_ok nmX12 (by decide) wd_1345 (Or.inl ⟨rfl, rfl⟩) rfl))) (xT_l (yS (y_aload_eq _ _) (s_aload_n d140_69))))) (xT_n (xT_l (yS (y_getf_eq _ _ _) (s_getf (T := TX12) (N := 70) d140_70 rfl inX12 (by decide) wd_1345))) (xT_n (xT_l (s_iconst d140_73 (by decide +kernel))) (xT_l (yS (y_bin_eq _ _) (s_isub d140_74)))))))))
set_option maxRecDepth 100000 in
set_option maxHeartbeats 4000000 in
theorem M_140 : xMeth PX 140 (T_140, 4, [(28, 1), (75, 1)]) := ⟨⟨"CapitalCaseModel", "tell", "(IIZ)I"⟩, prog_14_method_106_code, (some .int), rfl, by decide, fun G => T_140_ok G, xrt_ok (xR_c (Or.inl ⟨rfl, d140_28, rfl⟩) (xR_c (Or.inl ⟨rfl, d140_75, rfl⟩) (xR_n)))⟩
theorem d141_0 : decode prog_14_method_75_code 0 = .ok (.aload_n 0, 1) := by decide +kernel
theorem d141_1 : decode prog_14_method_75_code 1 = .ok (.iload_n 1, 1) := by decide +kernel
theorem d141_2 : decode prog_14_method_75_code 2 = .ok (.invokevirtual 405, 3) := by decide +kernel
theorem d141_5 : decode prog_14_method_75_code 5 = .ok (.ifCond .eq 28, 3) := by decide +kernel
theorem d141_33 : decode prog_14_method_75_code 33 = .ok (.ldc_w 420, 3) := by decide +kernel
theorem d141_36 : decode prog_14_method_75_code 36 = .ok (.ireturn, 1) := by decide +kernel
noncomputable def T_141 : Nat → Option xF := bn 2 (bn 1 (bl 0 (y_aload 0 1)) (bl 1 (y_iload 1 2))) (bn 5 (bl 2 (y_invV 12 117 2 5)) (bn 33 (bl 5 (y_if yc0 33 8)) (bl 33 (x_const 1147483648 36))))
set_option maxRecDepth 100000 in
set_option maxHeartbeats 4000000 in
theorem T_141_ok (G : State → Nat → Nat → Prop) : xTree PX G prog_14_method_75_code "CapitalCaseModel" false T_141 := (xT_n (xT_n (xT_l (yS (y_aload_eq _ _) (s_aload_n d141_0))) (xT_l (yS (y_iload_eq _ _) (s_iload_n d141_1)))) (xT_n (xT_l (yS (y_invV_eq _ _ _ _) (s_invV (T := TX12) d141_2 cal_117 rfl wd_1625 wd_1627 wd_72))) (xT_n (xT_l (yS (y_if_eq yc0_eq _ _) (s_ifeq d141_5 (by decide +kernel)))) (xT_l (s_ldcw d141_33 wd_1698 (by decide +kernel))))))
set_option maxRecDepth 100000 in
set_option maxHeartbeats 4000000 in
theorem M_141 : xMeth PX 141 (T_141, 5, [(36, 1)]) := ⟨⟨"CapitalCaseModel", "tells", "(IIII)I"⟩, prog_14_method_75_code, (some .int), rfl, by decide, fun G => T_141_ok G, xrt_ok (xR_c (Or.inl ⟨rfl, d141_36, rfl⟩) (xR_n))⟩
theorem d142_0 : decode prog_14_method_103_code 0 = .ok (.aload_n 0, 1) := by decide +kernel
theorem d142_1 : decode prog_14_method_103_code 1 = .ok (.iload_n 1, 1) := by decide +kernel
theorem d142_2 : decode prog_14_method_103_code 2 = .ok (.invokevirtual 405, 3) := by decide +kernel
theorem d142_5 : decode prog_14_method_103_code 5 = .ok (.ifCond .eq 27, 3) := by decide +kernel
theorem d142_32 : decode prog_14_method_103_code 32 = .ok (.iconst (-1), 1) := by decide +kernel
theorem d142_33 : decode prog_14_method_103_code 33 = .ok (.ireturn, 1) := by decide +kernel
noncomputable def T_142 : Nat → Option xF := bn 2 (bn 1 (bl 0 (y_aload 0 1)) (bl 1 (y_iload 1 2))) (bn 5 (bl 2 (y_invV 12 117 2 5)) (bn 32 (bl 5 (y_if yc0 32 8)) (bl 32 (x_const 2147483647 33))))
set_option maxRecDepth 100000 in
set_option maxHeartbeats 4000000 in
theorem T_142_ok (G : State → Nat → Nat → Prop) : xTree PX G prog_14_method_103_code "CapitalCaseModel" false T_142 := (xT_n (xT_n (xT_l (yS (y_aload_eq _ _) (s_aload_n d142_0))) (xT_l (yS (y_iload_eq _ _) (s_iload_n d142_1)))) (xT_n (xT_l (yS (y_invV_eq _ _ _ _) (s_invV (T := TX12) d142_2 cal_117 rfl wd_1625 wd_1627 wd_72))) (xT_n (xT_l (yS (y_if_eq yc0_eq _ _) (s_ifeq d142_5 (by decide +kernel)))) (xT_l (s_iconst d142_32 (by decide +kernel))))))
set_option maxRecDepth 100000 in
set_option maxHeartbeats 4000000 in
theorem M_142 : xMeth PX 142 (T_142, 5, [(33, 1)]) := ⟨⟨"CapitalCaseModel", "then", "(IIII)I"⟩, prog_14_method_103_code, (some .int), rfl, by decide, fun G => T_142_ok G, xrt_ok (xR_c (Or.inl ⟨rfl, d142_33, rfl⟩) (xR_n))⟩
theorem d143_0 : decode prog_14_method_11_code 0 = .ok (.aload_n 0, 1) := by decide +kernel
theorem d143_1 : decode prog_14_method_11_code 1 = .ok (.getfield 20, 3) := by decide +kernel
theorem d143_4 : decode prog_14_method_11_code 4 = .ok (.aload_n 0, 1) := by decide +kernel
theorem d143_5 : decode prog_14_method_11_code 5 = .ok (.getfield 178, 3) := by decide +kernel
theorem d143_8 : decode prog_14_method_11_code 8 = .ok (.iload_n 1, 1) := by decide +kernel
theorem d143_9 : decode prog_14_method_11_code 9 = .ok (.iastore, 1) := by decide +kernel
theorem d143_10 : decode prog_14_method_11_code 10 = .ok (.aload_n 0, 1) := by decide +kernel
theorem d143_11 : decode prog_14_method_11_code 11 = .ok (.getfield 24, 3) := by decide +kernel
theorem d143_14 : decode prog_14_method_11_code 14 = .ok (.aload_n 0, 1) := by decide +kernel
theorem d143_15 : decode prog_14_method_11_code 15 = .ok (.getfield 178, 3) := by decide +kernel
theorem d143_18 : decode prog_14_method_11_code 18 = .ok (.iload_n 2, 1) := by decide +kernel
theorem d143_19 : decode prog_14_method_11_code 19 = .ok (.iastore, 1) := by decide +kernel
theorem d143_20 : decode prog_14_method_11_code 20 = .ok (.aload_n 0, 1) := by decide +kernel
theorem d143_21 : decode prog_14_method_11_code 21 = .ok (.getfield 27, 3) := by decide +kernel
theorem d143_24 : decode prog_14_method_11_code 24 = .ok (.aload_n 0, 1) := by decide +kernel
theorem d143_25 : decode prog_14_method_11_code 25 = .ok (.getfield 178, 3) := by decide +kernel
theorem d143_28 : decode prog_14_method_11_code 28 = .ok (.iload_n 3, 1) := by decide +kernel
theorem d143_29 : decode prog_14_method_11_code 29 = .ok (.iastore, 1) := by decide +kernel
theorem d143_30 : decode prog_14_method_11_code 30 = .ok (.aload_n 0, 1) := by decide +kernel
theorem d143_31 : decode prog_14_method_11_code 31 = .ok (.getfield 30, 3) := by decide +kernel
theorem d143_34 : decode prog_14_method_11_code 34 = .ok (.aload_n 0, 1) := by decide +kernel
theorem d143_35 : decode prog_14_method_11_code 35 = .ok (.getfield 178, 3) := by decide +kernel
theorem d143_38 : decode prog_14_method_11_code 38 = .ok (.lload 4, 2) := by decide +kernel
theorem d143_40 : decode prog_14_method_11_code 40 = .ok (.lastore, 1) := by decide +kernel
theorem d143_41 : decode prog_14_method_11_code 41 = .ok (.aload_n 0, 1) := by decide +kernel
theorem d143_42 : decode prog_14_method_11_code 42 = .ok (.dup, 1) := by decide +kernel
theorem d143_43 : decode prog_14_method_11_code 43 = .ok (.getfield 178, 3) := by decide +kernel
theorem d143_46 : decode prog_14_method_11_code 46 = .ok (.iconst 1, 1) := by decide +kernel
theorem d143_47 : decode prog_14_method_11_code 47 = .ok (.iadd, 1) := by decide +kernel
theorem d143_48 : decode prog_14_method_11_code 48 = .ok (.putfield 178, 3) := by decide +kernel
theorem d143_51 : decode prog_14_method_11_code 51 = .ok (.return_, 1) := by decide +kernel
noncomputable def T_143 : Nat → Option xF := bn 25 (bn 11 (bn 5 (bn 1 (bl 0 (y_aload 0 1)) (bn 4 (bl 1 (y_getf 12 19 4)) (bl 4 (y_aload 0 5)))) (bn 9 (bn 8 (bl 5 (y_getf 12 24 8)) (bl 8 (y_iload 1 9))) (bn 10 (bl 9 (y_iast 10)) (bl 10 (y_aload 0 11))))) (bn 19 (bn 15 (bn 14 (bl 11 (y_getf 12 20 14)) (bl 14 (y_aload 0 15))) (bn 18 (bl 15 (y_getf 12 24 18)) (bl 18 (y_iload 2 19)))) (bn 21 (bn 20 (bl 19 (y_iast 20)) (bl 20 (y_aload 0 21))) (bn 24 (bl 21 (y_getf 12 21 24)) (bl 24 (y_aload 0 25)))))) (bn 38 (bn 30 (bn 28 (bl 25 (y_getf 12 24 28)) (bn 29 (bl 28 (y_iload 3 29)) (bl 29 (y_iast 30)))) (bn 34 (bn 31 (bl 30 (y_aload 0 31)) (bl 31 (y_getf 12 22 34))) (bn 35 (bl 34 (y_aload 0 35)) (bl 35 (y_getf 12 24 38))))) (bn 43 (bn 41 (bn 40 (bl 38 (x_lload 4 40)) (bl 40 (x_last 41))) (bn 42 (bl 41 (y_aload 0 42)) (bl 42 (x_dup 43)))) (bn 47 (bn 46 (bl 43 (y_getf 12 24 46)) (bl 46 (x_const 2147483649 47))) (bn 48 (bl 47 (y_bin yadd 48)) (bl 48 (y_putf 12 24 0 51))))))
set_option maxRecDepth 100000 in
set_option maxHeartbeats 4000000 in
theorem T_143_ok (G : State → Nat → Nat → Prop) : xTree PX G prog_14_method_11_code "CapitalCaseModel" false T_143 := (xT_n (xT_n (xT_n (xT_n (xT_l (yS (y_aload_eq _ _) (s_aload_n d143_0))) (xT_n (xT_l (yS (y_getf_eq _ _ _) (s_getf (T := TX12) (N := 70) d143_1 rfl inX12 (by decide) wd_1286))) (xT_l (yS (y_aload_eq _ _) (s_aload_n d143_4))))) (xT_n (xT_n (xT_l (yS (y_getf_eq _ _ _) (s_getf (T := TX12) (N := 70) d143_5 rfl inX12 (by decide) wd_1291))) (xT_l (yS (y_iload_eq _ _) (s_iload_n d143_8)))) (xT_n (xT_l (yS (y_iast_eq _) (s_iast d143_9))) (xT_l (yS (y_aload_eq _ _) (s_aload_n d143_10)))))) (xT_n (xT_n (xT_n (xT_l (yS (y_getf_eq _ _ _) (s_getf (T := TX12) (N := 70) d143_11 rfl inX12 (by decide) wd_1287))) (xT_l (yS (y_aload_eq _ _) (s_aload_n d143_14)))) (xT_n (xT_l (yS (y_getf_eq _ _ _) (s_getf (T := TX12) (N := 70) d143_15 rfl inX12 (by decide) wd_1291))) (xT_l (yS (y_iload_eq _ _) (s_iload_n d143_18))))) (xT_n (xT_n (xT_l (yS (y_iast_eq _) (s_iast d143_19))) (xT_l (yS (y_aload_eq _ _) (s_aload_n d143_20)))) (xT_n (xT_l (yS (y_getf_eq _ _ _) (s_getf (T := TX12) (N := 70) d143_21 rfl inX12 (by decide) wd_1288))) (xT_l (yS (y_aload_eq _ _) (s_aload_n d143_24))))))) (xT_n (xT_n (xT_n (xT_l (yS (y_getf_eq _ _ _) (s_getf (T := TX12) (N := 70) d143_25 rfl inX12 (by decide) wd_1291))) (xT_n (xT_l (yS (y_iload_eq _ _) (s_iload_n d143_28))) (xT_l (yS (y_iast_eq _) (s_iast d143_29))))) (xT_n (xT_n (xT_l (yS (y_aload_eq _ _) (s_aload_n d143_30))) (xT_l (yS (y_getf_eq _ _ _) (s_getf (T := TX12) (N := 70) d143_31 rfl inX12 (by decide) wd_1289)))) (xT_n (xT_l (yS (y_aload_eq _ _) (s_aload_n d143_34))) (xT_l (yS (y_getf_eq _ _ _) (s_getf (T := TX12) (N := 70) d143_35 rfl inX12 (by decide) wd_1291)))))) (xT_n (xT_n (xT_n (xT_l (s_lload d143_38)) (xT_l (s_last d143_40))) (xT_n (xT_l (yS (y_aload_eq _ _) (s_aload_n d143_41))) (xT_l (s_dup d143_42)))) (xT_n (xT_n (xT_l (yS (y_getf_eq _ _ _) (s_getf (T := TX12) (N := 70) d143_43 rfl inX12 (by decide) wd_1291))) (xT_l (s_iconst d143_46 (by decide +kernel)))) (xT_n (xT_l (yS (y_bin_eq _ _) (s_iadd d143_47))) (xT_l (yS (y_putf_eq _ _ _ _) (s_putf (T := TX12) (N := 70) (ty := tyX12) d143_48 rfl inX12 tyX12_ok nmX12 (by decide) wd_1291 (Or.inl ⟨rfl, rfl⟩) rfl))))))))
set_option maxRecDepth 100000 in
set_option maxHeartbeats 4000000 in
theorem M_143 : xMeth PX 143 (T_143, 6, [(51, 3)]) := ⟨⟨"CapitalCaseModel", "token", "(IIIJ)V"⟩, prog_14_method_11_code, none, rfl, by decide, fun G => T_143_ok G, xrt_ok (xR_c (Or.inr (Or.inr (Or.inl ⟨rfl, d143_51, rfl⟩))) (xR_n))⟩
theorem d144_0 : decode prog_14_method_92_code 0 = .ok (.iload_n 1, 1) := by decide +kernel
theorem d144_1 : decode prog_14_method_92_code 1 = .ok (.iconst 0, 1) := by decide +kernel
theorem d144_2 : decode prog_14_method_92_code 2 = .ok (.iconst 1, 1) := by decide +kernel
theorem d144_3 : decode prog_14_method_92_code 3 = .ok (.invokestatic 324, 3) := by decide +kernel
theorem d144_6 : decode prog_14_method_92_code 6 = .ok (.ifCond .ne 5, 3) := by decide +kernel
theorem d144_9 : decode prog_14_method_92_code 9 = .ok (.iconst (-1), 1) := by decide +kernel
theorem d144_10 : decode prog_14_method_92_code 10 = .ok (.ireturn, 1) := by decide +kernel
theorem d144_11 : decode prog_14_method_92_code 11 = .ok (.aload_n 0, 1) := by decide +kernel
theorem d144_12 : decode prog_14_method_92_code 12 = .ok (.invokevirtual 411, 3) := by decide +kernel
theorem d144_15 : decode prog_14_method_92_code 15 = .ok (.aload_n 0, 1) := by decide +kernel
theorem d144_16 : decode prog_14_method_92_code 16 = .ok (.invokevirtual 436, 3) := by decide +kernel
theorem d144_19 : decode prog_14_method_92_code 19 = .ok (.istore_n 2, 1) := by decide +kernel
theorem d144_20 : decode prog_14_method_92_code 20 = .ok (.iconst 0, 1) := by decide +kernel
theorem d144_21 : decode prog_14_method_92_code 21 = .ok (.istore_n 3, 1) := by decide +kernel
theorem d144_22 : decode prog_14_method_92_code 22 = .ok (.iconst (-1), 1) := by decide +kernel
theorem d144_23 : decode prog_14_method_92_code 23 = .ok (.istore 4, 2) := by decide +kernel
theorem d144_25 : decode prog_14_method_92_code 25 = .ok (.iconst 0, 1) := by decide +kernel
theorem d144_26 : decode prog_14_method_92_code 26 = .ok (.istore 5, 2) := by decide +kernel
theorem d144_28 : decode prog_14_method_92_code 28 = .ok (.iload 5, 2) := by decide +kernel
theorem d144_30 : decode prog_14_method_92_code 30 = .ok (.iconst 1, 1) := by decide +kernel
theorem d144_31 : decode prog_14_method_92_code 31 = .ok (.aload_n 0, 1) := by decide +kernel
theorem d144_32 : decode prog_14_method_92_code 32 = .ok (.getfield 49, 3) := by decide +kernel
theorem d144_35 : decode prog_14_method_92_code 35 = .ok (.aload_n 0, 1) := by decide +kernel
theorem d144_36 : decode prog_14_method_92_code 36 = .ok (.getfield 230, 3) := by decide +kernel
theorem d144_39 : decode prog_14_method_92_code 39 = .ok (.iaload, 1) := by decide +kernel
theorem d144_40 : decode prog_14_method_92_code 40 = .ok (.ishl, 1) := by decide +kernel
theorem d144_41 : decode prog_14_method_92_code 41 = .ok (.if_icmp .ge 68, 3) := by decide +kernel
theorem d144_44 : decode prog_14_method_92_code 44 = .ok (.iload 5, 2) := by decide +kernel
theorem d144_46 : decode prog_14_method_92_code 46 = .ok (.iload_n 2, 1) := by decide +kernel
theorem d144_47 : decode prog_14_method_92_code 47 = .ok (.iconst (-1), 1) := by decide +kernel
theorem d144_48 : decode prog_14_method_92_code 48 = .ok (.ixor, 1) := by decide +kernel
theorem d144_49 : decode prog_14_method_92_code 49 = .ok (.iand, 1) := by decide +kernel
theorem d144_50 : decode prog_14_method_92_code 50 = .ok (.ifCond .eq 6, 3) := by decide +kernel
theorem d144_56 : decode prog_14_method_92_code 56 = .ok (.aload_n 0, 1) := by decide +kernel
theorem d144_57 : decode prog_14_method_92_code 57 = .ok (.iload 5, 2) := by decide +kernel
theorem d144_59 : decode prog_14_method_92_code 59 = .ok (.invokevirtual 454, 3) := by decide +kernel
theorem d144_62 : decode prog_14_method_92_code 62 = .ok (.istore 6, 2) := by decide +kernel
theorem d144_64 : decode prog_14_method_92_code 64 = .ok (.iload 6, 2) := by decide +kernel
theorem d144_66 : decode prog_14_method_92_code 66 = .ok (.ifCond .ge 6, 3) := by decide +kernel
theorem d144_72 : decode prog_14_method_92_code 72 = .ok (.aload_n 0, 1) := by decide +kernel
theorem d144_73 : decode prog_14_method_92_code 73 = .ok (.invokevirtual 451, 3) := by decide +kernel
theorem d144_76 : decode prog_14_method_92_code 76 = .ok (.iload 6, 2) := by decide +kernel
theorem d144_78 : decode prog_14_method_92_code 78 = .ok (.aload_n 0, 1) := by decide +kernel
theorem d144_79 : decode prog_14_method_92_code 79 = .ok (.getfield 442, 3) := by decide +kernel
theorem d144_82 : decode prog_14_method_92_code 82 = .ok (.iadd, 1) := by decide +kernel
theorem d144_83 : decode prog_14_method_92_code 83 = .ok (.iload 4, 2) := by decide +kernel
theorem d144_85 : decode prog_14_method_92_code 85 = .ok (.if_icmp .gt 6, 3) := by decide +kernel
theorem d144_91 : decode prog_14_method_92_code 91 = .ok (.iload 5, 2) := by decide +kernel
theorem d144_93 : decode prog_14_method_92_code 93 = .ok (.istore_n 3, 1) := by decide +kernel
theorem d144_94 : decode prog_14_method_92_code 94 = .ok (.iload 6, 2) := by decide +kernel
theorem d144_96 : decode prog_14_method_92_code 96 = .ok (.aload_n 0, 1) := by decide +kernel
theorem d144_97 : decode prog_14_method_92_code 97 = .ok (.getfield 442, 3) := by decide +kernel
theorem d144_100 : decode prog_14_method_92_code 100 = .ok (.iadd, 1) := by decide +kernel
theorem d144_101 : decode prog_14_method_92_code 101 = .ok (.istore 4, 2) := by decide +kernel
theorem d144_103 : decode prog_14_method_92_code 103 = .ok (.iinc 5 1, 3) := by decide +kernel
theorem d144_106 : decode prog_14_method_92_code 106 = .ok (.goto (-78), 3) := by decide +kernel
theorem d144_109 : decode prog_14_method_92_code 109 = .ok (.iload_n 1, 1) := by decide +kernel
theorem d144_110 : decode prog_14_method_92_code 110 = .ok (.ifCond .ne 8, 3) := by decide +kernel
theorem d144_113 : decode prog_14_method_92_code 113 = .ok (.iload 4, 2) := by decide +kernel
theorem d144_115 : decode prog_14_method_92_code 115 = .ok (.goto 4, 3) := by decide +kernel
theorem d144_118 : decode prog_14_method_92_code 118 = .ok (.iload_n 3, 1) := by decide +kernel
theorem d144_119 : decode prog_14_method_92_code 119 = .ok (.ireturn, 1) := by decide +kernel
noncomputable def T_144 : Nat → Option xF := bn 49 (bn 25 (bn 12 (bn 3 (bn 1 (bl 0 (y_iload 1 1)) (bn 2 (bl 1 (x_const 2147483648 2)) (bl 2 (x_const 2147483649 3)))) (bn 9 (bn 6 (bl 3 (y_inv 115 3 6)) (bl 6 (y_if yc1 11 9))) (bn 11 (bl 9 (x_const 2147483647 10)) (bl 11 (y_aload 0 12))))) (bn 20 (bn 16 (bn 15 (bl 12 (y_invV 12 101 1 15)) (bl 15 (y_aload 0 16))) (bn 19 (bl 16 (y_invV 12 128 1 19)) (bl 19 (y_istore 2 20)))) (bn 22 (bn 21 (bl 20 (x_const 2147483648 21)) (bl 21 (y_istore 3 22))) (bn 23 (bl 22 (x_const 2147483647 23)) (bl 23 (y_istore 4 25)))))) (bn 36 (bn 30 (bn 26 (bl 25 (x_const 2147483648 26)) (bn 28 (bl 26 (y_istore 5 28)) (bl 28 (y_iload 5 30)))) (bn 32 (bn 31 (bl 30 (x_const 2147483649 31)) (bl 31 (y_aload 0 32))) (bn 35 (bl 32 (y_getf 12 4 35)) (bl 35 (y_aload 0 36))))) (bn 44 (bn 40 (bn 39 (bl 36 (y_getf 12 2 39)) (bl 39 (y_iald 40))) (bn 41 (bl 40 (y_bin (xfg (fun x y => x <<< (y &&& 31))) 41)) (bl 41 (y_icmp yc3 109 44)))) (bn 47 (bn 46 (bl 44 (y_iload 5 46)) (bl 46 (y_iload 2 47))) (bn 48 (bl 47 (x_const 2147483647 48)) (bl 48 (y_bin (xfg (fun x y => x ^^^ y)) 49))))))) (bn 85 (bn 66 (bn 57 (bn 50 (bl 49 (y_bin (xfg (fun x y => x &&& y)) 50)) (bn 56 (bl 50 (y_if yc0 56 53)) (bl 56 (y_aload 0 57)))) (bn 62 (bn 59 (bl 57 (y_iload 5 59)) (bl 59 (y_invV 12 108 2 62))) (bn 64 (bl 62 (y_istore 6 64)) (bl 64 (y_iload 6 66))))) (bn 78 (bn 73 (bn 72 (bl 66 (y_if yc3 72 69)) (bl 72 (y_aload 0 73))) (bn 76 (bl 73 (y_invV 12 107 1 76)) (bl 76 (y_iload 6 78)))) (bn 82 (bn 79 (bl 78 (y_aload 0 79)) (bl 79 (y_getf 12 62 82))) (bn 83 (bl 82 (y_bin yadd 83)) (bl 83 (y_iload 4 85)))))) (bn 101 (bn 94 (bn 91 (bl 85 (y_icmp yc4 91 88)) (bn 93 (bl 91 (y_iload 5 93)) (bl 93 (y_istore 3 94)))) (bn 97 (bn 96 (bl 94 (y_iload 6 96)) (bl 96 (y_aload 0 97))) (bn 100 (bl 97 (y_getf 12 62 100)) (bl 100 (y_bin yadd 101))))) (bn 110 (bn 106 (bn 103 (bl 101 (y_istore 4 103)) (bl 103 (y_iinc 5 2147483649 106))) (bn 109 (bl 106 (x_goto 28)) (bl 109 (y_iload 1 110)))) (bn 115 (bn 113 (bl 110 (y_if yc1 118 113)) (bl 113 (y_iload 4 115))) (bn 118 (bl 115 (x_goto 119)) (bl 118 (y_iload 3 119)))))))
set_option maxRecDepth 100000 in
set_option maxHeartbeats 4000000 in
theorem T_144_ok (G : State → Nat → Nat → Prop) : xTree PX G prog_14_method_92_code "CapitalCaseModel" false T_144 := (xT_n (xT_n (xT_n (xT_n (xT_n (xT_l (yS (y_iload_eq _ _) (s_iload_n d144_0))) (xT_n (xT_l (s_iconst d144_1 (by decide +kernel))) (xT_l (s_iconst d144_2 (by decide +kernel))))) (xT_n (xT_n (xT_l (yS (y_inv_eq _ _ _) (s_invS d144_3 cal_115 wd_1629 wd_1630))) (xT_l (yS (y_if_eq yc1_eq _ _) (s_ifne d144_6 (by decide +kernel))))) (xT_n (xT_l (s_iconst d144_9 (by decide +kernel))) (xT_l (yS (y_aload_eq _ _) (s_aload_n d144_11)))))) (xT_n (xT_n (xT_n (xT_l (yS (y_invV_eq _ _ _ _) (s_invV (T := TX12) d144_12 cal_101 rfl wd_1635 wd_1637 wd_73))) (xT_l (yS (y_aload_eq _ _) (s_aload_n d144_15)))) (xT_n (xT_l (yS (y_invV_eq _ _ _ _) (s_invV (T := TX12) d144_16 cal_128 rfl wd_1798 wd_1800 wd_100))) (xT_l (yS (y_istore_eq _ _) (s_istore_n d144_19))))) (xT_n (xT_n (xT_l (s_iconst d144_20 (by decide +kernel))) (xT_l (yS (y_istore_eq _ _) (s_istore_n d144_21)))) (xT_n (xT_l (s_iconst d144_22 (by decide +kernel))) (xT_l (yS (y_istore_eq _ _) (s_istore d144_23))))))) (xT_n (xT_n (xT_n (xT_l (s_iconst d144_25 (by decide +kernel))) (xT_n (xT_l (yS (y_istore_eq _ _) (s_istore d144_26))) (xT_l (yS (y_iload_eq _ _) (s_iload d144_28))))) (xT_n (xT_n (xT_l (s_iconst d144_30 (by decide +kernel))) (xT_l (yS (y_aload_eq _ _) (s_aload_n d144_31)))) (xT_n (xT_l (yS (y_getf_eq _ _ _) (s_getf (T := TX12) (N := 70) d144_32 rfl inX12 (by decide) wd_1305))) (xT_l (yS (y_aload_eq _ _) (s_aload_n d144_35)))))) (xT_n (xT_n (xT_n (xT_l (yS (y_getf_eq _ _ _) (s_getf (T := TX12) (N := 70) d144_36 rfl inX12 (by decide) wd_1299))) (xT_l (yS (y_iald_eq _) (s_iald d144_39)))) (xT_n (xT_l (yS (y_bin_eq _ _) (s_ishl d144_40))) (xT_l (yS (y_icmp_eq yc3_eq _ _) (s_icmpge d144_41 (by decide +kernel)))))) (xT_n (xT_n (xT_l (yS (y_iload_eq _ _) (s_iload d144_44))) (xT_l (yS (y_iload_eq _ _) (s_iload_n d144_46)))) (xT_n (xT_l (s_iconst d144_47 (by decide +kernel))) (xT_l (yS (y_bin_eq _ _) (s_ixor d144_48)))))))) (xT_n (xT_n (xT_n (xT_n (xT_l (yS (y_bin_eq _ _) (s_iand d144_49))) (xT_n (xT_l (yS (y_if_eq yc0_eq _ _) (s_ifeq d144_50 (by decide +kernel)))) (xT_l (yS (y_aload_eq _ _) (s_aload_n d144_56))))) (xT_n (xT_n (xT_l (yS (y_iload_eq _ _) (s_iload d144_57))) (xT_l (yS (y_invV_eq _ _ _ _) (s_invV (T := TX12) d144_59 cal_108 rfl wd_1822 wd_1824 wd_103)))) (xT_n (xT_l (yS (y_istore_eq _ _) (s_istore d144_62))) (xT_l (yS (y_iload_eq _ _) (s_iload d144_64)))))) (xT_n (xT_n (xT_n (xT_l (yS (y_if_eq yc3_eq _ _) (s_ifge d144_66 (by decide +kernel)))) (xT_l (yS (y_aload_eq _ _) (s_aload_n d144_72)))) (xT_n (xT_l (yS (y_invV_eq _ _ _ _) (s_invV (T := TX12) d144_73 cal_107 rfl wd_1794 wd_1796 wd_99))) (xT_l (yS (y_iload_eq _ _) (s_iload d144_76))))) (xT_n (xT_n (xT_l (yS (y_aload_eq _ _) (s_aload_n d144_78))) (xT_l (yS (y_getf_eq _ _ _) (s_getf (T := TX12) (N := 70) d144_79 rfl inX12 (by decide) wd_1343)))) (xT_n (xT_l (yS (y_bin_eq _ _) (s_iadd d144_82))) (xT_l (yS (y_iload_eq _ _) (s_iload d144_83))))))) (xT_n (xT_n (xT_n (xT_l (yS (y_icmp_eq yc4_eq _ _) (s_icmpgt d144_85 (by decide +kernel)))) (xT_n (xT_l (yS (y_iload_eq _ _) (s_iload d144_91))) (xT_l (yS (y_istore_eq _ _) (s_istore_n d144_93))))) (xT_n (xT_n (xT_l (yS (y_iload_eq _ _) (s_iload d144_94))) (xT_l (yS (y_aload_eq _ _) (s_aload_n d144_96)))) (xT_n (xT_l (yS (y_getf_eq _ _ _) (s_getf (T := TX12) (N := 70) d144_97 rfl inX12 (by decide) wd_1343))) (xT_l (yS (y_bin_eq _ _) (s_iadd d144_100)))))) (xT_n (xT_n (xT_n (xT_l (yS (y_istore_eq _ _) (s_istore d144_101))) (xT_l (yS (y_iinc_eq _ _ _) (s_iinc d144_103 (by decide +kernel))))) (xT_n (xT_l (s_goto d144_106 (by decide +kernel))) (xT_l (yS (y_iload_eq _ _) (s_iload_n d144_109))))) (xT_n (xT_n (xT_l (yS (y_if_eq yc1_eq _ _) (s_ifne d144_110 (by decide +kernel)))) (xT_l (yS (y_iload_eq _ _) (s_iload d144_113)))) (xT_n (xT_l (s_goto d144_115 (by decide +kernel))) (xT_l (yS (y_iload_eq _ _) (s_iload_n d144_118)))))))))
set_option maxRecDepth 100000 in
set_option maxHeartbeats 4000000 in
theorem M_144 : xMeth PX 144 (T_144, 7, [(10, 1), (119, 1)]) := ⟨⟨"CapitalCaseModel", "twoDays", "(I)I"⟩, prog_14_method_92_code, (some .int), rfl, by decide, fun G => T_144_ok G, xrt_ok (xR_c (Or.inl ⟨rfl, d144_10, rfl⟩) (xR_c (Or.inl ⟨rfl, d144_119, rfl⟩) (xR_n)))⟩
theorem d145_0 : decode prog_14_method_83_code 0 = .ok (.aload_n 0, 1) := by decide +kernel
theorem d145_1 : decode prog_14_method_83_code 1 = .ok (.getfield 248, 3) := by decide +kernel
theorem d145_4 : decode prog_14_method_83_code 4 = .ok (.ifCond .ne 5, 3) := by decide +kernel
theorem d145_7 : decode prog_14_method_83_code 7 = .ok (.iconst 0, 1) := by decide +kernel
theorem d145_8 : decode prog_14_method_83_code 8 = .ok (.ireturn, 1) := by decide +kernel
noncomputable def T_145 : Nat → Option xF := bn 4 (bn 1 (bl 0 (y_aload 0 1)) (bl 1 (y_getf 12 10 4))) (bn 7 (bl 4 (y_if yc1 9 7)) (bl 7 (x_const 2147483648 8)))
set_option maxRecDepth 100000 in
set_option maxHeartbeats 4000000 in
theorem T_145_ok (G : State → Nat → Nat → Prop) : xTree PX G prog_14_method_83_code "CapitalCaseModel" false T_145 := (xT_n (xT_n (xT_l (yS (y_aload_eq _ _) (s_aload_n d145_0))) (xT_l (yS (y_getf_eq _ _ _) (s_getf (T := TX12) (N := 70) d145_1 rfl inX12 (by decide) wd_1340)))) (xT_n (xT_l (yS (y_if_eq yc1_eq _ _) (s_ifne d145_4 (by decide +kernel)))) (xT_l (s_iconst d145_7 (by decide +kernel)))))
set_option maxRecDepth 100000 in
set_option maxHeartbeats 4000000 in
theorem M_145 : xMeth PX 145 (T_145, 2, [(8, 2)]) := ⟨⟨"CapitalCaseModel", "undo", "()Z"⟩, prog_14_method_83_code, (some .boolean), rfl, by decide, fun G => T_145_ok G, xrt_ok (xR_c (Or.inr (Or.inl ⟨rfl, d145_8, rfl⟩)) (xR_n))⟩
theorem d146_0 : decode prog_14_method_73_code 0 = .ok (.aload_n 0, 1) := by decide +kernel
theorem d146_1 : decode prog_14_method_73_code 1 = .ok (.iload_n 1, 1) := by decide +kernel
theorem d146_2 : decode prog_14_method_73_code 2 = .ok (.invokevirtual 417, 3) := by decide +kernel
theorem d146_5 : decode prog_14_method_73_code 5 = .ok (.ifCond .ne 5, 3) := by decide +kernel
theorem d146_8 : decode prog_14_method_73_code 8 = .ok (.iconst (-1), 1) := by decide +kernel
theorem d146_9 : decode prog_14_method_73_code 9 = .ok (.ireturn, 1) := by decide +kernel
noncomputable def T_146 : Nat → Option xF := bn 2 (bn 1 (bl 0 (y_aload 0 1)) (bl 1 (y_iload 1 2))) (bn 5 (bl 2 (y_invV 12 120 2 5)) (bn 8 (bl 5 (y_if yc1 10 8)) (bl 8 (x_const 2147483647 9))))
set_option maxRecDepth 100000 in
set_option maxHeartbeats 4000000 in
theorem T_146_ok (G : State → Nat → Nat → Prop) : xTree PX G prog_14_method_73_code "CapitalCaseModel" false T_146 := (xT_n (xT_n (xT_l (yS (y_aload_eq _ _) (s_aload_n d146_0))) (xT_l (yS (y_iload_eq _ _) (s_iload_n d146_1)))) (xT_n (xT_l (yS (y_invV_eq _ _ _ _) (s_invV (T := TX12) d146_2 cal_120 rfl wd_1678 wd_1680 wd_82))) (xT_n (xT_l (yS (y_if_eq yc1_eq _ _) (s_ifne d146_5 (by decide +kernel)))) (xT_l (s_iconst d146_8 (by decide +kernel))))))
set_option maxRecDepth 100000 in
set_option maxHeartbeats 4000000 in
theorem M_146 : xMeth PX 146 (T_146, 3, [(9, 1)]) := ⟨⟨"CapitalCaseModel", "verse", "(II)I"⟩, prog_14_method_73_code, (some .int), rfl, by decide, fun G => T_146_ok G, xrt_ok (xR_c (Or.inl ⟨rfl, d146_9, rfl⟩) (xR_n))⟩
theorem d147_0 : decode prog_14_method_114_code 0 = .ok (.iconst 0, 1) := by decide +kernel
theorem d147_1 : decode prog_14_method_114_code 1 = .ok (.istore_n 3, 1) := by decide +kernel
theorem d147_2 : decode prog_14_method_114_code 2 = .ok (.iconst 0, 1) := by decide +kernel
theorem d147_3 : decode prog_14_method_114_code 3 = .ok (.istore 4, 2) := by decide +kernel
theorem d147_5 : decode prog_14_method_114_code 5 = .ok (.iload 4, 2) := by decide +kernel
theorem d147_7 : decode prog_14_method_114_code 7 = .ok (.aload_n 0, 1) := by decide +kernel
theorem d147_8 : decode prog_14_method_114_code 8 = .ok (.getfield 49, 3) := by decide +kernel
theorem d147_11 : decode prog_14_method_114_code 11 = .ok (.aload_n 0, 1) := by decide +kernel
theorem d147_12 : decode prog_14_method_114_code 12 = .ok (.getfield 230, 3) := by decide +kernel
theorem d147_15 : decode prog_14_method_114_code 15 = .ok (.iaload, 1) := by decide +kernel
theorem d147_16 : decode prog_14_method_114_code 16 = .ok (.if_icmp .ge 35, 3) := by decide +kernel
theorem d147_51 : decode prog_14_method_114_code 51 = .ok (.iload_n 3, 1) := by decide +kernel
theorem d147_52 : decode prog_14_method_114_code 52 = .ok (.ireturn, 1) := by decide +kernel
noncomputable def T_147 : Nat → Option xF := bn 8 (bn 3 (bn 1 (bl 0 (x_const 2147483648 1)) (bn 2 (bl 1 (y_istore 3 2)) (bl 2 (x_const 2147483648 3)))) (bn 5 (bl 3 (y_istore 4 5)) (bn 7 (bl 5 (y_iload 4 7)) (bl 7 (y_aload 0 8))))) (bn 15 (bn 11 (bl 8 (y_getf 12 4 11)) (bn 12 (bl 11 (y_aload 0 12)) (bl 12 (y_getf 12 2 15)))) (bn 16 (bl 15 (y_iald 16)) (bn 51 (bl 16 (y_icmp yc3 51 19)) (bl 51 (y_iload 3 52)))))
set_option maxRecDepth 100000 in
set_option maxHeartbeats 4000000 in
theorem T_147_ok (G : State → Nat → Nat → Prop) : xTree PX G prog_14_method_114_code "CapitalCaseModel" false T_147 := (xT_n (xT_n (xT_n (xT_l (s_iconst d147_0 (by decide +kernel))) (xT_n (xT_l (yS (y_istore_eq _ _) (s_istore_n d147_1))) (xT_l (s_iconst d147_2 (by decide +kernel))))) (xT_n (xT_l (yS (y_istore_eq _ _) (s_istore d147_3))) (xT_n (xT_l (yS (y_iload_eq _ _) (s_iload d147_5))) (xT_l (yS (y_aload_eq _ _) (s_aload_n d147_7)))))) (xT_n (xT_n (xT_l (yS (y_getf_eq _ _ _) (s_getf (T := TX12) (N := 70) d147_8 rfl inX12 (by decide) wd_1305))) (xT_n (xT_l (yS (y_aload_eq _ _) (s_aload_n d147_11))) (xT_l (yS (y_getf_eq _ _ _) (s_getf (T := TX12) (N := 70) d147_12 rfl inX12 (by decide) wd_1299))))) (xT_n (xT_l (yS (y_iald_eq _) (s_iald d147_15))) (xT_n (xT_l (yS (y_icmp_eq yc3_eq _ _) (s_icmpge d147_16 (by decide +kernel)))) (xT_l (yS (y_iload_eq _ _) (s_iload_n d147_51)))))))
set_option maxRecDepth 100000 in
set_option maxHeartbeats 4000000 in
theorem M_147 : xMeth PX 147 (T_147, 5, [(52, 1)]) := ⟨⟨"CapitalCaseModel", "versesSo", "(II)I"⟩, prog_14_method_114_code, (some .int), rfl, by decide, fun G => T_147_ok G, xrt_ok (xR_c (Or.inl ⟨rfl, d147_52, rfl⟩) (xR_n))⟩
theorem d148_0 : decode prog_14_method_74_code 0 = .ok (.aload_n 0, 1) := by decide +kernel
theorem d148_1 : decode prog_14_method_74_code 1 = .ok (.iload_n 1, 1) := by decide +kernel
theorem d148_2 : decode prog_14_method_74_code 2 = .ok (.invokevirtual 417, 3) := by decide +kernel
theorem d148_5 : decode prog_14_method_74_code 5 = .ok (.ifCond .eq 49, 3) := by decide +kernel
theorem d148_54 : decode prog_14_method_74_code 54 = .ok (.iconst (-1), 1) := by decide +kernel
theorem d148_55 : decode prog_14_method_74_code 55 = .ok (.ireturn, 1) := by decide +kernel
noncomputable def T_148 : Nat → Option xF := bn 2 (bn 1 (bl 0 (y_aload 0 1)) (bl 1 (y_iload 1 2))) (bn 5 (bl 2 (y_invV 12 120 2 5)) (bn 54 (bl 5 (y_if yc0 54 8)) (bl 54 (x_const 2147483647 55))))
set_option maxRecDepth 100000 in
set_option maxHeartbeats 4000000 in
theorem T_148_ok (G : State → Nat → Nat → Prop) : xTree PX G prog_14_method_74_code "CapitalCaseModel" false T_148 := (xT_n (xT_n (xT_l (yS (y_aload_eq _ _) (s_aload_n d148_0))) (xT_l (yS (y_iload_eq _ _) (s_iload_n d148_1)))) (xT_n (xT_l (yS (y_invV_eq _ _ _ _) (s_invV (T := TX12) d148_2 cal_120 rfl wd_1678 wd_1680 wd_82))) (xT_n (xT_l (yS (y_if_eq yc0_eq _ _) (s_ifeq d148_5 (by decide +kernel)))) (xT_l (s_iconst d148_54 (by decide +kernel))))))
set_option maxRecDepth 100000 in
set_option maxHeartbeats 4000000 in
theorem M_148 : xMeth PX 148 (T_148, 3, [(55, 1)]) := ⟨⟨"CapitalCaseModel", "wants", "(II)I"⟩, prog_14_method_74_code, (some .int), rfl, by decide, fun G => T_148_ok G, xrt_ok (xR_c (Or.inl ⟨rfl, d148_55, rfl⟩) (xR_n))⟩
theorem d149_0 : decode prog_14_method_109_code 0 = .ok (.iload_n 1, 1) := by decide +kernel
theorem d149_1 : decode prog_14_method_109_code 1 = .ok (.iconst 0, 1) := by decide +kernel
theorem d149_2 : decode prog_14_method_109_code 2 = .ok (.aload_n 0, 1) := by decide +kernel
theorem d149_3 : decode prog_14_method_109_code 3 = .ok (.getfield 251, 3) := by decide +kernel
theorem d149_6 : decode prog_14_method_109_code 6 = .ok (.invokestatic 324, 3) := by decide +kernel
theorem d149_9 : decode prog_14_method_109_code 9 = .ok (.ifCond .eq 12, 3) := by decide +kernel
theorem d149_12 : decode prog_14_method_109_code 12 = .ok (.iload_n 2, 1) := by decide +kernel
theorem d149_13 : decode prog_14_method_109_code 13 = .ok (.iconst 0, 1) := by decide +kernel
theorem d149_14 : decode prog_14_method_109_code 14 = .ok (.iconst 1, 1) := by decide +kernel
theorem d149_15 : decode prog_14_method_109_code 15 = .ok (.invokestatic 324, 3) := by decide +kernel
theorem d149_18 : decode prog_14_method_109_code 18 = .ok (.ifCond .ne 5, 3) := by decide +kernel
theorem d149_21 : decode prog_14_method_109_code 21 = .ok (.iconst (-1), 1) := by decide +kernel
theorem d149_22 : decode prog_14_method_109_code 22 = .ok (.ireturn, 1) := by decide +kernel
theorem d149_23 : decode prog_14_method_109_code 23 = .ok (.aload_n 0, 1) := by decide +kernel
theorem d149_24 : decode prog_14_method_109_code 24 = .ok (.iload_n 1, 1) := by decide +kernel
theorem d149_25 : decode prog_14_method_109_code 25 = .ok (.invokevirtual 467, 3) := by decide +kernel
theorem d149_28 : decode prog_14_method_109_code 28 = .ok (.istore_n 3, 1) := by decide +kernel
theorem d149_29 : decode prog_14_method_109_code 29 = .ok (.iload_n 2, 1) := by decide +kernel
theorem d149_30 : decode prog_14_method_109_code 30 = .ok (.ifCond .ne 10, 3) := by decide +kernel
theorem d149_33 : decode prog_14_method_109_code 33 = .ok (.iload_n 3, 1) := by decide +kernel
theorem d149_34 : decode prog_14_method_109_code 34 = .ok (.invokestatic 470, 3) := by decide +kernel
theorem d149_37 : decode prog_14_method_109_code 37 = .ok (.goto 4, 3) := by decide +kernel
theorem d149_40 : decode prog_14_method_109_code 40 = .ok (.iload_n 3, 1) := by decide +kernel
theorem d149_41 : decode prog_14_method_109_code 41 = .ok (.ireturn, 1) := by decide +kernel
noncomputable def T_149 : Nat → Option xF := bn 21 (bn 9 (bn 2 (bn 1 (bl 0 (y_iload 1 1)) (bl 1 (x_const 2147483648 2))) (bn 3 (bl 2 (y_aload 0 3)) (bn 6 (bl 3 (y_getf 12 64 6)) (bl 6 (y_inv 115 3 9))))) (bn 14 (bn 12 (bl 9 (y_if yc0 21 12)) (bn 13 (bl 12 (y_iload 2 13)) (bl 13 (x_const 2147483648 14)))) (bn 15 (bl 14 (x_const 2147483649 15)) (bn 18 (bl 15 (y_inv 115 3 18)) (bl 18 (y_if yc1 23 21)))))) (bn 29 (bn 24 (bn 23 (bl 21 (x_const 2147483647 22)) (bl 23 (y_aload 0 24))) (bn 25 (bl 24 (y_iload 1 25)) (bn 28 (bl 25 (y_invV 12 150 2 28)) (bl 28 (y_istore 3 29))))) (bn 34 (bn 30 (bl 29 (y_iload 2 30)) (bn 33 (bl 30 (y_if yc1 40 33)) (bl 33 (y_iload 3 34)))) (bn 37 (bl 34 (y_inv 97 1 37)) (bn 40 (bl 37 (x_goto 41)) (bl 40 (y_iload 3 41))))))
set_option maxRecDepth 100000 in
set_option maxHeartbeats 4000000 in
theorem T_149_ok (G : State → Nat → Nat → Prop) : xTree PX G prog_14_method_109_code "CapitalCaseModel" false T_149 := (xT_n (xT_n (xT_n (xT_n (xT_l (yS (y_iload_eq _ _) (s_iload_n d149_0))) (xT_l (s_iconst d149_1 (by decide +kernel)))) (xT_n (xT_l (yS (y_aload_eq _ _) (s_aload_n d149_2))) (xT_n (xT_l (yS (y_getf_eq _ _ _) (s_getf (T := TX12) (N := 70) d149_3 rfl inX12 (by decide) wd_1345))) (xT_l (yS (y_inv_eq _ _ _) (s_invS d149_6 cal_115 wd_1629 wd_1630)))))) (xT_n (xT_n (xT_l (yS (y_if_eq yc0_eq _ _) (s_ifeq d149_9 (by decide +kernel)))) (xT_n (xT_l (yS (y_iload_eq _ _) (s_iload_n d149_12))) (xT_l (s_iconst d149_13 (by decide +kernel))))) (xT_n (xT_l (s_iconst d149_14 (by decide +kernel))) (xT_n (xT_l (yS (y_inv_eq _ _ _) (s_invS d149_15 cal_115 wd_1629 wd_1630))) (xT_l (yS (y_if_eq yc1_eq _ _) (s_ifne d149_18 (by decide +kernel)))))))) (xT_n (xT_n (xT_n (xT_l (s_iconst d149_21 (by decide +kernel))) (xT_l (yS (y_aload_eq _ _) (s_aload_n d149_23)))) (xT_n (xT_l (yS (y_iload_eq _ _) (s_iload_n d149_24))) (xT_n (xT_l (yS (y_invV_eq _ _ _ _) (s_invV (T := TX12) d149_25 cal_150 rfl wd_1886 wd_1888 wd_107))) (xT_l (yS (y_istore_eq _ _) (s_istore_n d149_28)))))) (xT_n (xT_n (xT_l (yS (y_iload_eq _ _) (s_iload_n d149_29))) (xT_n (xT_l (yS (y_if_eq yc1_eq _ _) (s_ifne d149_30 (by decide +kernel)))) (xT_l (yS (y_iload_eq _ _) (s_iload_n d149_33))))) (xT_n (xT_l (yS (y_inv_eq _ _ _) (s_invS d149_34 cal_97 wd_1890 wd_1891))) (xT_n (xT_l (s_goto d149_37 (by decide +kernel))) (xT_l (yS (y_iload_eq _ _) (s_iload_n d149_40))))))))
set_option maxRecDepth 100000 in
set_option maxHeartbeats 4000000 in
theorem M_149 : xMeth PX 149 (T_149, 4, [(22, 1), (41, 1)]) := ⟨⟨"CapitalCaseModel", "whose", "(II)I"⟩, prog_14_method_109_code, (some .int), rfl, by decide, fun G => T_149_ok G, xrt_ok (xR_c (Or.inl ⟨rfl, d149_22, rfl⟩) (xR_c (Or.inl ⟨rfl, d149_41, rfl⟩) (xR_n)))⟩
theorem d150_0 : decode prog_14_method_108_code 0 = .ok (.iconst 0, 1) := by decide +kernel
theorem d150_1 : decode prog_14_method_108_code 1 = .ok (.istore_n 2, 1) := by decide +kernel
theorem d150_2 : decode prog_14_method_108_code 2 = .ok (.iconst 0, 1) := by decide +kernel
theorem d150_3 : decode prog_14_method_108_code 3 = .ok (.istore_n 3, 1) := by decide +kernel
theorem d150_4 : decode prog_14_method_108_code 4 = .ok (.iload_n 3, 1) := by decide +kernel
theorem d150_5 : decode prog_14_method_108_code 5 = .ok (.aload_n 0, 1) := by decide +kernel
theorem d150_6 : decode prog_14_method_108_code 6 = .ok (.getfield 43, 3) := by decide +kernel
theorem d150_9 : decode prog_14_method_108_code 9 = .ok (.aload_n 0, 1) := by decide +kernel
theorem d150_10 : decode prog_14_method_108_code 10 = .ok (.getfield 230, 3) := by decide +kernel
theorem d150_13 : decode prog_14_method_108_code 13 = .ok (.iaload, 1) := by decide +kernel
theorem d150_14 : decode prog_14_method_108_code 14 = .ok (.if_icmp .ge 86, 3) := by decide +kernel
theorem d150_100 : decode prog_14_method_108_code 100 = .ok (.iload_n 2, 1) := by decide +kernel
theorem d150_101 : decode prog_14_method_108_code 101 = .ok (.ireturn, 1) := by decide +kernel
noncomputable def T_150 : Nat → Option xF := bn 6 (bn 3 (bn 1 (bl 0 (x_const 2147483648 1)) (bn 2 (bl 1 (y_istore 2 2)) (bl 2 (x_const 2147483648 3)))) (bn 4 (bl 3 (y_istore 3 4)) (bn 5 (bl 4 (y_iload 3 5)) (bl 5 (y_aload 0 6))))) (bn 13 (bn 9 (bl 6 (y_getf 12 3 9)) (bn 10 (bl 9 (y_aload 0 10)) (bl 10 (y_getf 12 2 13)))) (bn 14 (bl 13 (y_iald 14)) (bn 100 (bl 14 (y_icmp yc3 100 17)) (bl 100 (y_iload 2 101)))))
set_option maxRecDepth 100000 in
set_option maxHeartbeats 4000000 in
theorem T_150_ok (G : State → Nat → Nat → Prop) : xTree PX G prog_14_method_108_code "CapitalCaseModel" false T_150 := (xT_n (xT_n (xT_n (xT_l (s_iconst d150_0 (by decide +kernel))) (xT_n (xT_l (yS (y_istore_eq _ _) (s_istore_n d150_1))) (xT_l (s_iconst d150_2 (by decide +kernel))))) (xT_n (xT_l (yS (y_istore_eq _ _) (s_istore_n d150_3))) (xT_n (xT_l (yS (y_iload_eq _ _) (s_iload_n d150_4))) (xT_l (yS (y_aload_eq _ _) (s_aload_n d150_5)))))) (xT_n (xT_n (xT_l (yS (y_getf_eq _ _ _) (s_getf (T := TX12) (N := 70) d150_6 rfl inX12 (by decide) wd_1303))) (xT_n (xT_l (yS (y_aload_eq _ _) (s_aload_n d150_9))) (xT_l (yS (y_getf_eq _ _ _) (s_getf (T := TX12) (N := 70) d150_10 rfl inX12 (by decide) wd_1299))))) (xT_n (xT_l (yS (y_iald_eq _) (s_iald d150_13))) (xT_n (xT_l (yS (y_icmp_eq yc3_eq _ _) (s_icmpge d150_14 (by decide +kernel)))) (xT_l (yS (y_iload_eq _ _) (s_iload_n d150_100)))))))
set_option maxRecDepth 100000 in
set_option maxHeartbeats 4000000 in
theorem M_150 : xMeth PX 150 (T_150, 6, [(101, 1)]) := ⟨⟨"CapitalCaseModel", "whoseBits", "(I)I"⟩, prog_14_method_108_code, (some .int), rfl, by decide, fun G => T_150_ok G, xrt_ok (xR_c (Or.inl ⟨rfl, d150_101, rfl⟩) (xR_n))⟩
theorem d151_0 : decode prog_14_method_10_code 0 = .ok (.lconst 0, 1) := by decide +kernel
theorem d151_1 : decode prog_14_method_10_code 1 = .ok (.iload_n 0, 1) := by decide +kernel
theorem d151_2 : decode prog_14_method_10_code 2 = .ok (.invokestatic 174, 3) := by decide +kernel
theorem d151_5 : decode prog_14_method_10_code 5 = .ok (.iload_n 1, 1) := by decide +kernel
theorem d151_6 : decode prog_14_method_10_code 6 = .ok (.invokestatic 174, 3) := by decide +kernel
theorem d151_9 : decode prog_14_method_10_code 9 = .ok (.iload_n 2, 1) := by decide +kernel
theorem d151_10 : decode prog_14_method_10_code 10 = .ok (.invokestatic 174, 3) := by decide +kernel
theorem d151_13 : decode prog_14_method_10_code 13 = .ok (.iload_n 3, 1) := by decide +kernel
theorem d151_14 : decode prog_14_method_10_code 14 = .ok (.invokestatic 174, 3) := by decide +kernel
theorem d151_17 : decode prog_14_method_10_code 17 = .ok (.iload 4, 2) := by decide +kernel
theorem d151_19 : decode prog_14_method_10_code 19 = .ok (.invokestatic 174, 3) := by decide +kernel
theorem d151_22 : decode prog_14_method_10_code 22 = .ok (.iload 5, 2) := by decide +kernel
theorem d151_24 : decode prog_14_method_10_code 24 = .ok (.invokestatic 174, 3) := by decide +kernel
theorem d151_27 : decode prog_14_method_10_code 27 = .ok (.iload 6, 2) := by decide +kernel
theorem d151_29 : decode prog_14_method_10_code 29 = .ok (.invokestatic 174, 3) := by decide +kernel
theorem d151_32 : decode prog_14_method_10_code 32 = .ok (.lreturn, 1) := by decide +kernel
noncomputable def T_151 : Nat → Option xF := bn 13 (bn 5 (bn 1 (bl 0 (x_lconst 1)) (bn 2 (bl 1 (y_iload 0 2)) (bl 2 (y_inv 89 2 5)))) (bn 9 (bn 6 (bl 5 (y_iload 1 6)) (bl 6 (y_inv 89 2 9))) (bn 10 (bl 9 (y_iload 2 10)) (bl 10 (y_inv 89 2 13))))) (bn 22 (bn 17 (bn 14 (bl 13 (y_iload 3 14)) (bl 14 (y_inv 89 2 17))) (bn 19 (bl 17 (y_iload 4 19)) (bl 19 (y_inv 89 2 22)))) (bn 27 (bn 24 (bl 22 (y_iload 5 24)) (bl 24 (y_inv 89 2 27))) (bn 29 (bl 27 (y_iload 6 29)) (bl 29 (y_inv 89 2 32)))))
set_option maxRecDepth 100000 in
set_option maxHeartbeats 4000000 in
theorem T_151_ok (G : State → Nat → Nat → Prop) : xTree PX G prog_14_method_10_code "CapitalCaseModel" false T_151 := (xT_n (xT_n (xT_n (xT_l (s_lconst d151_0)) (xT_n (xT_l (yS (y_iload_eq _ _) (s_iload_n d151_1))) (xT_l (yS (y_inv_eq _ _ _) (s_invS d151_2 cal_89 wd_1270 wd_1271))))) (xT_n (xT_n (xT_l (yS (y_iload_eq _ _) (s_iload_n d151_5))) (xT_l (yS (y_inv_eq _ _ _) (s_invS d151_6 cal_89 wd_1270 wd_1271)))) (xT_n (xT_l (yS (y_iload_eq _ _) (s_iload_n d151_9))) (xT_l (yS (y_inv_eq _ _ _) (s_invS d151_10 cal_89 wd_1270 wd_1271)))))) (xT_n (xT_n (xT_n (xT_l (yS (y_iload_eq _ _) (s_iload_n d151_13))) (xT_l (yS (y_inv_eq _ _ _) (s_invS d151_14 cal_89 wd_1270 wd_1271)))) (xT_n (xT_l (yS (y_iload_eq _ _) (s_iload d151_17))) (xT_l (yS (y_inv_eq _ _ _) (s_invS d151_19 cal_89 wd_1270 wd_1271))))) (xT_n (xT_n (xT_l (yS (y_iload_eq _ _) (s_iload d151_22))) (xT_l (yS (y_inv_eq _ _ _) (s_invS d151_24 cal_89 wd_1270 wd_1271)))) (xT_n (xT_l (yS (y_iload_eq _ _) (s_iload d151_27))) (xT_l (yS (y_inv_eq _ _ _) (s_invS d151_29 cal_89 wd_1270 wd_1271)))))))
set_option maxRecDepth 100000 in
set_option maxHeartbeats 4000000 in
theorem M_151 : xMeth PX 151 (T_151, 7, [(32, 4)]) := ⟨⟨"CapitalCaseModel", "word", "(IIIIIII)J"⟩, prog_14_method_10_code, (some .long), rfl, by decide, fun G => T_151_ok G, xrt_ok (xR_c (Or.inr (Or.inr (Or.inr ⟨rfl, d151_32, rfl⟩))) (xR_n))⟩
theorem d152_0 : decode prog_14_method_102_code 0 = .ok (.aload_n 0, 1) := by decide +kernel
theorem d152_1 : decode prog_14_method_102_code 1 = .ok (.iload_n 1, 1) := by decide +kernel
theorem d152_2 : decode prog_14_method_102_code 2 = .ok (.invokevirtual 405, 3) := by decide +kernel
theorem d152_5 : decode prog_14_method_102_code 5 = .ok (.ifCond .eq 10, 3) := by decide +kernel
theorem d152_15 : decode prog_14_method_102_code 15 = .ok (.iconst (-1), 1) := by decide +kernel
theorem d152_16 : decode prog_14_method_102_code 16 = .ok (.ireturn, 1) := by decide +kernel
noncomputable def T_152 : Nat → Option xF := bn 2 (bn 1 (bl 0 (y_aload 0 1)) (bl 1 (y_iload 1 2))) (bn 5 (bl 2 (y_invV 12 117 2 5)) (bn 15 (bl 5 (y_if yc0 15 8)) (bl 15 (x_const 2147483647 16))))
set_option maxRecDepth 100000 in
set_option maxHeartbeats 4000000 in
theorem T_152_ok (G : State → Nat → Nat → Prop) : xTree PX G prog_14_method_102_code "CapitalCaseModel" false T_152 := (xT_n (xT_n (xT_l (yS (y_aload_eq _ _) (s_aload_n d152_0))) (xT_l (yS (y_iload_eq _ _) (s_iload_n d152_1)))) (xT_n (xT_l (yS (y_invV_eq _ _ _ _) (s_invV (T := TX12) d152_2 cal_117 rfl wd_1625 wd_1627 wd_72))) (xT_n (xT_l (yS (y_if_eq yc0_eq _ _) (s_ifeq d152_5 (by decide +kernel)))) (xT_l (s_iconst d152_15 (by decide +kernel))))))
set_option maxRecDepth 100000 in
set_option maxHeartbeats 4000000 in
theorem M_152 : xMeth PX 152 (T_152, 4, [(16, 1)]) := ⟨⟨"CapitalCaseModel", "wornOut", "(II)I"⟩, prog_14_method_102_code, (some .int), rfl, by decide, fun G => T_152_ok G, xrt_ok (xR_c (Or.inl ⟨rfl, d152_16, rfl⟩) (xR_n))⟩
theorem d153_0 : decode prog_14_method_89_code 0 = .ok (.aload_n 0, 1) := by decide +kernel
theorem d153_1 : decode prog_14_method_89_code 1 = .ok (.iload_n 1, 1) := by decide +kernel
theorem d153_2 : decode prog_14_method_89_code 2 = .ok (.invokevirtual 405, 3) := by decide +kernel
theorem d153_5 : decode prog_14_method_89_code 5 = .ok (.ifCond .eq 10, 3) := by decide +kernel
theorem d153_15 : decode prog_14_method_89_code 15 = .ok (.iconst (-1), 1) := by decide +kernel
theorem d153_16 : decode prog_14_method_89_code 16 = .ok (.ireturn, 1) := by decide +kernel
noncomputable def T_153 : Nat → Option xF := bn 2 (bn 1 (bl 0 (y_aload 0 1)) (bl 1 (y_iload 1 2))) (bn 5 (bl 2 (y_invV 12 117 2 5)) (bn 15 (bl 5 (y_if yc0 15 8)) (bl 15 (x_const 2147483647 16))))
set_option maxRecDepth 100000 in
set_option maxHeartbeats 4000000 in
theorem T_153_ok (G : State → Nat → Nat → Prop) : xTree PX G prog_14_method_89_code "CapitalCaseModel" false T_153 := (xT_n (xT_n (xT_l (yS (y_aload_eq _ _) (s_aload_n d153_0))) (xT_l (yS (y_iload_eq _ _) (s_iload_n d153_1)))) (xT_n (xT_l (yS (y_invV_eq _ _ _ _) (s_invV (T := TX12) d153_2 cal_117 rfl wd_1625 wd_1627 wd_72))) (xT_n (xT_l (yS (y_if_eq yc0_eq _ _) (s_ifeq d153_5 (by decide +kernel)))) (xT_l (s_iconst d153_15 (by decide +kernel))))))
set_option maxRecDepth 100000 in
set_option maxHeartbeats 4000000 in
theorem M_153 : xMeth PX 153 (T_153, 4, [(16, 1)]) := ⟨⟨"CapitalCaseModel", "worth", "(II)I"⟩, prog_14_method_89_code, (some .int), rfl, by decide, fun G => T_153_ok G, xrt_ok (xR_c (Or.inl ⟨rfl, d153_16, rfl⟩) (xR_n))⟩
theorem d154_0 : decode prog_14_method_105_code 0 = .ok (.aload_n 0, 1) := by decide +kernel
theorem d154_1 : decode prog_14_method_105_code 1 = .ok (.iload_n 1, 1) := by decide +kernel
theorem d154_2 : decode prog_14_method_105_code 2 = .ok (.invokevirtual 405, 3) := by decide +kernel
theorem d154_5 : decode prog_14_method_105_code 5 = .ok (.ifCond .eq 28, 3) := by decide +kernel
theorem d154_33 : decode prog_14_method_105_code 33 = .ok (.iconst (-1), 1) := by decide +kernel
theorem d154_34 : decode prog_14_method_105_code 34 = .ok (.ireturn, 1) := by decide +kernel
noncomputable def T_154 : Nat → Option xF := bn 2 (bn 1 (bl 0 (y_aload 0 1)) (bl 1 (y_iload 1 2))) (bn 5 (bl 2 (y_invV 12 117 2 5)) (bn 33 (bl 5 (y_if yc0 33 8)) (bl 33 (x_const 2147483647 34))))
set_option maxRecDepth 100000 in
set_option maxHeartbeats 4000000 in
theorem T_154_ok (G : State → Nat → Nat → Prop) : xTree PX G prog_14_method_105_code "CapitalCaseModel" false T_154 := (xT_n (xT_n (xT_l (yS (y_aload_eq _ _) (s_aload_n d154_0))) (xT_l (yS (y_iload_eq _ _) (s_iload_n d154_1)))) (xT_n (xT_l (yS (y_invV_eq _ _ _ _) (s_invV (T := TX12) d154_2 cal_117 rfl wd_1625 wd_1627 wd_72))) (xT_n (xT_l (yS (y_if_eq yc0_eq _ _) (s_ifeq d154_5 (by decide +kernel)))) (xT_l (s_iconst d154_33 (by decide +kernel))))))
set_option maxRecDepth 100000 in
set_option maxHeartbeats 4000000 in
theorem M_154 : xMeth PX 154 (T_154, 7, [(34, 1)]) := ⟨⟨"CapitalCaseModel", "year", "(IIII)I"⟩, prog_14_method_105_code, (some .int), rfl, by decide, fun G => T_154_ok G, xrt_ok (xR_c (Or.inl ⟨rfl, d154_34, rfl⟩) (xR_n))⟩
theorem d155_0 : decode prog_16_method_49_code 0 = .ok (.iload_n 0, 1) := by decide +kernel
theorem d155_1 : decode prog_16_method_49_code 1 = .ok (.iload_n 0, 1) := by decide +kernel
theorem d155_2 : decode prog_16_method_49_code 2 = .ok (.iconst 1, 1) := by decide +kernel
theorem d155_3 : decode prog_16_method_49_code 3 = .ok (.iushr, 1) := by decide +kernel
theorem d155_4 : decode prog_16_method_49_code 4 = .ok (.ldc_w 265, 3) := by decide +kernel
theorem d155_7 : decode prog_16_method_49_code 7 = .ok (.iand, 1) := by decide +kernel
theorem d155_8 : decode prog_16_method_49_code 8 = .ok (.isub, 1) := by decide +kernel
theorem d155_9 : decode prog_16_method_49_code 9 = .ok (.istore_n 0, 1) := by decide +kernel
theorem d155_10 : decode prog_16_method_49_code 10 = .ok (.iload_n 0, 1) := by decide +kernel
theorem d155_11 : decode prog_16_method_49_code 11 = .ok (.ldc_w 266, 3) := by decide +kernel
theorem d155_14 : decode prog_16_method_49_code 14 = .ok (.iand, 1) := by decide +kernel
theorem d155_15 : decode prog_16_method_49_code 15 = .ok (.iload_n 0, 1) := by decide +kernel
theorem d155_16 : decode prog_16_method_49_code 16 = .ok (.iconst 2, 1) := by decide +kernel
theorem d155_17 : decode prog_16_method_49_code 17 = .ok (.iushr, 1) := by decide +kernel
theorem d155_18 : decode prog_16_method_49_code 18 = .ok (.ldc_w 266, 3) := by decide +kernel
theorem d155_21 : decode prog_16_method_49_code 21 = .ok (.iand, 1) := by decide +kernel
theorem d155_22 : decode prog_16_method_49_code 22 = .ok (.iadd, 1) := by decide +kernel
theorem d155_23 : decode prog_16_method_49_code 23 = .ok (.istore_n 0, 1) := by decide +kernel
theorem d155_24 : decode prog_16_method_49_code 24 = .ok (.iload_n 0, 1) := by decide +kernel
theorem d155_25 : decode prog_16_method_49_code 25 = .ok (.iload_n 0, 1) := by decide +kernel
theorem d155_26 : decode prog_16_method_49_code 26 = .ok (.iconst 4, 1) := by decide +kernel
theorem d155_27 : decode prog_16_method_49_code 27 = .ok (.iushr, 1) := by decide +kernel
theorem d155_28 : decode prog_16_method_49_code 28 = .ok (.iadd, 1) := by decide +kernel
theorem d155_29 : decode prog_16_method_49_code 29 = .ok (.ldc_w 267, 3) := by decide +kernel
theorem d155_32 : decode prog_16_method_49_code 32 = .ok (.iand, 1) := by decide +kernel
theorem d155_33 : decode prog_16_method_49_code 33 = .ok (.istore_n 0, 1) := by decide +kernel
theorem d155_34 : decode prog_16_method_49_code 34 = .ok (.iload_n 0, 1) := by decide +kernel
theorem d155_35 : decode prog_16_method_49_code 35 = .ok (.iload_n 0, 1) := by decide +kernel
theorem d155_36 : decode prog_16_method_49_code 36 = .ok (.bipush 8, 2) := by decide +kernel
theorem d155_38 : decode prog_16_method_49_code 38 = .ok (.iushr, 1) := by decide +kernel
theorem d155_39 : decode prog_16_method_49_code 39 = .ok (.iadd, 1) := by decide +kernel
theorem d155_40 : decode prog_16_method_49_code 40 = .ok (.istore_n 0, 1) := by decide +kernel
theorem d155_41 : decode prog_16_method_49_code 41 = .ok (.iload_n 0, 1) := by decide +kernel
theorem d155_42 : decode prog_16_method_49_code 42 = .ok (.iload_n 0, 1) := by decide +kernel
theorem d155_43 : decode prog_16_method_49_code 43 = .ok (.bipush 16, 2) := by decide +kernel
theorem d155_45 : decode prog_16_method_49_code 45 = .ok (.iushr, 1) := by decide +kernel
theorem d155_46 : decode prog_16_method_49_code 46 = .ok (.iadd, 1) := by decide +kernel
theorem d155_47 : decode prog_16_method_49_code 47 = .ok (.istore_n 0, 1) := by decide +kernel
theorem d155_48 : decode prog_16_method_49_code 48 = .ok (.iload_n 0, 1) := by decide +kernel
theorem d155_49 : decode prog_16_method_49_code 49 = .ok (.bipush 63, 2) := by decide +kernel
theorem d155_51 : decode prog_16_method_49_code 51 = .ok (.iand, 1) := by decide +kernel
theorem d155_52 : decode prog_16_method_49_code 52 = .ok (.ireturn, 1) := by decide +kernel
noncomputable def T_155 : Nat → Option xF := bn 26 (bn 14 (bn 7 (bn 2 (bn 1 (bl 0 (y_iload 0 1)) (bl 1 (y_iload 0 2))) (bn 3 (bl 2 (x_const 2147483649 3)) (bn 4 (bl 3 (y_bin (xfg (fun x y => (x.toUInt32 >>> (y.toUInt32 &&& Int32.toUInt32 31)).toInt32)) 4)) (bl 4 (x_const 3579139413 7))))) (bn 9 (bn 8 (bl 7 (y_bin (xfg (fun x y => x &&& y)) 8)) (bl 8 (y_bin ysub 9))) (bn 10 (bl 9 (y_istore 0 10)) (bn 11 (bl 10 (y_iload 0 11)) (bl 11 (x_const 3006477107 14)))))) (bn 21 (bn 16 (bn 15 (bl 14 (y_bin (xfg (fun x y => x &&& y)) 15)) (bl 15 (y_iload 0 16))) (bn 17 (bl 16 (x_const 2147483650 17)) (bn 18 (bl 17 (y_bin (xfg (fun x y => (x.toUInt32 >>> (y.toUInt32 &&& Int32.toUInt32 31)).toInt32)) 18)) (bl 18 (x_const 3006477107 21))))) (bn 23 (bn 22 (bl 21 (y_bin (xfg (fun x y => x &&& y)) 22)) (bl 22 (y_bin yadd 23))) (bn 24 (bl 23 (y_istore 0 24)) (bn 25 (bl 24 (y_iload 0 25)) (bl 25 (y_iload 0 26))))))) (bn 39 (bn 33 (bn 28 (bn 27 (bl 26 (x_const 2147483652 27)) (bl 27 (y_bin (xfg (fun x y => (x.toUInt32 >>> (y.toUInt32 &&& Int32.toUInt32 31)).toInt32)) 28))) (bn 29 (bl 28 (y_bin yadd 29)) (bn 32 (bl 29 (x_const 2400128783 32)) (bl 32 (y_bin (xfg (fun x y => x &&& y)) 33))))) (bn 35 (bn 34 (bl 33 (y_istore 0 34)) (bl 34 (y_iload 0 35))) (bn 36 (bl 35 (y_iload 0 36)) (bn 38 (bl 36 (x_const 2147483656 38)) (bl 38 (y_bin (xfg (fun x y => (x.toUInt32 >>> (y.toUInt32 &&& Int32.toUInt32 31)).toInt32)) 39)))))) (bn 45 (bn 41 (bn 40 (bl 39 (y_bin yadd 40)) (bl 40 (y_istore 0 41))) (bn 42 (bl 41 (y_iload 0 42)) (bn 43 (bl 42 (y_iload 0 43)) (bl 43 (x_const 2147483664 45))))) (bn 48 (bn 46 (bl 45 (y_bin (xfg (fun x y => (x.toUInt32 >>> (y.toUInt32 &&& Int32.toUInt32 31)).toInt32)) 46)) (bn 47 (bl 46 (y_bin yadd 47)) (bl 47 (y_istore 0 48)))) (bn 49 (bl 48 (y_iload 0 49)) (bn 51 (bl 49 (x_const 2147483711 51)) (bl 51 (y_bin (xfg (fun x y => x &&& y)) 52)))))))
set_option maxRecDepth 100000 in
set_option maxHeartbeats 4000000 in
theorem T_155_ok (G : State → Nat → Nat → Prop) : xTree PX G prog_16_method_49_code "java/lang/Integer" false T_155 := (xT_n (xT_n (xT_n (xT_n (xT_n (xT_l (yS (y_iload_eq _ _) (s_iload_n d155_0))) (xT_l (yS (y_iload_eq _ _) (s_iload_n d155_1)))) (xT_n (xT_l (s_iconst d155_2 (by decide +kernel))) (xT_n (xT_l (yS (y_bin_eq _ _) (s_iushr d155_3))) (xT_l (s_ldcw d155_4 wd_1220 (by decide +kernel)))))) (xT_n (xT_n (xT_l (yS (y_bin_eq _ _) (s_iand d155_7))) (xT_l (yS (y_bin_eq _ _) (s_isub d155_8)))) (xT_n (xT_l (yS (y_istore_eq _ _) (s_istore_n d155_9))) (xT_n (xT_l (yS (y_iload_eq _ _) (s_iload_n d155_10))) (xT_l (s_ldcw d155_11 wd_1221 (by decide +kernel))))))) (xT_n (xT_n (xT_n (xT_l (yS (y_bin_eq _ _) (s_iand d155_14))) (xT_l (yS (y_iload_eq _ _) (s_iload_n d155_15)))) (xT_n (xT_l (s_iconst d155_16 (by decide +kernel))) (xT_n (xT_l (yS (y_bin_eq _ _) (s_iushr d155_17))) (xT_l (s_ldcw d155_18 wd_1221 (by decide +kernel)))))) (xT_n (xT_n (xT_l (yS (y_bin_eq _ _) (s_iand d155_21))) (xT_l (yS (y_bin_eq _ _) (s_iadd d155_22)))) (xT_n (xT_l (yS (y_istore_eq _ _) (s_istore_n d155_23))) (xT_n (xT_l (yS (y_iload_eq _ _) (s_iload_n d155_24))) (xT_l (yS (y_iload_eq _ _) (s_iload_n d155_25)))))))) (xT_n (xT_n (xT_n (xT_n (xT_l (s_iconst d155_26 (by decide +kernel))) (xT_l (yS (y_bin_eq _ _) (s_iushr d155_27)))) (xT_n (xT_l (yS (y_bin_eq _ _) (s_iadd d155_28))) (xT_n (xT_l (s_ldcw d155_29 wd_1222 (by decide +kernel))) (xT_l (yS (y_bin_eq _ _) (s_iand d155_32)))))) (xT_n (xT_n (xT_l (yS (y_istore_eq _ _) (s_istore_n d155_33))) (xT_l (yS (y_iload_eq _ _) (s_iload_n d155_34)))) (xT_n (xT_l (yS (y_iload_eq _ _) (s_iload_n d155_35))) (xT_n (xT_l (s_bipush d155_36 (by decide +kernel))) (xT_l (yS (y_bin_eq _ _) (s_iushr d155_38))))))) (xT_n (xT_n (xT_n (xT_l (yS (y_bin_eq _ _) (s_iadd d155_39))) (xT_l (yS (y_istore_eq _ _) (s_istore_n d155_40)))) (xT_n (xT_l (yS (y_iload_eq _ _) (s_iload_n d155_41))) (xT_n (xT_l (yS (y_iload_eq _ _) (s_iload_n d155_42))) (xT_l (s_bipush d155_43 (by decide +kernel)))))) (xT_n (xT_n (xT_l (yS (y_bin_eq _ _) (s_iushr d155_45))) (xT_n (xT_l (yS (y_bin_eq _ _) (s_iadd d155_46))) (xT_l (yS (y_istore_eq _ _) (s_istore_n d155_47))))) (xT_n (xT_l (yS (y_iload_eq _ _) (s_iload_n d155_48))) (xT_n (xT_l (s_bipush d155_49 (by decide +kernel))) (xT_l (yS (y_bin_eq _ _) (s_iand d155_51)))))))))
set_option maxRecDepth 100000 in
set_option maxHeartbeats 4000000 in
theorem M_155 : xMeth PX 155 (T_155, 1, [(52, 1)]) := ⟨⟨"java/lang/Integer", "bitCount", "(I)I"⟩, prog_16_method_49_code, (some .int), rfl, by decide, fun G => T_155_ok G, xrt_ok (xR_c (Or.inl ⟨rfl, d155_52, rfl⟩) (xR_n))⟩
theorem d156_0 : decode prog_22_method_103_code 0 = .ok (.iconst 0, 1) := by decide +kernel
theorem d156_1 : decode prog_22_method_103_code 1 = .ok (.istore_n 2, 1) := by decide +kernel
theorem d156_2 : decode prog_22_method_103_code 2 = .ok (.aload_n 0, 1) := by decide +kernel
theorem d156_3 : decode prog_22_method_103_code 3 = .ok (.arraylength, 1) := by decide +kernel
theorem d156_4 : decode prog_22_method_103_code 4 = .ok (.istore_n 3, 1) := by decide +kernel
theorem d156_5 : decode prog_22_method_103_code 5 = .ok (.iload_n 2, 1) := by decide +kernel
theorem d156_6 : decode prog_22_method_103_code 6 = .ok (.iload_n 3, 1) := by decide +kernel
theorem d156_7 : decode prog_22_method_103_code 7 = .ok (.if_icmp .ge 13, 3) := by decide +kernel
theorem d156_10 : decode prog_22_method_103_code 10 = .ok (.aload_n 0, 1) := by decide +kernel
theorem d156_11 : decode prog_22_method_103_code 11 = .ok (.iload_n 2, 1) := by decide +kernel
theorem d156_12 : decode prog_22_method_103_code 12 = .ok (.iload_n 1, 1) := by decide +kernel
theorem d156_13 : decode prog_22_method_103_code 13 = .ok (.iastore, 1) := by decide +kernel
theorem d156_14 : decode prog_22_method_103_code 14 = .ok (.iinc 2 1, 3) := by decide +kernel
theorem d156_17 : decode prog_22_method_103_code 17 = .ok (.goto (-12), 3) := by decide +kernel
theorem d156_20 : decode prog_22_method_103_code 20 = .ok (.return_, 1) := by decide +kernel
noncomputable def T_156 : Nat → Option xF := bn 7 (bn 3 (bn 1 (bl 0 (x_const 2147483648 1)) (bn 2 (bl 1 (y_istore 2 2)) (bl 2 (y_aload 0 3)))) (bn 5 (bn 4 (bl 3 (x_alen 4)) (bl 4 (y_istore 3 5))) (bn 6 (bl 5 (y_iload 2 6)) (bl 6 (y_iload 3 7))))) (bn 12 (bn 10 (bl 7 (y_icmp yc3 20 10)) (bn 11 (bl 10 (y_aload 0 11)) (bl 11 (y_iload 2 12)))) (bn 14 (bn 13 (bl 12 (y_iload 1 13)) (bl 13 (y_iast 14))) (bn 17 (bl 14 (y_iinc 2 2147483649 17)) (bl 17 (x_goto 5)))))
set_option maxRecDepth 100000 in
set_option maxHeartbeats 4000000 in
theorem T_156_ok (G : State → Nat → Nat → Prop) : xTree PX G prog_22_method_103_code "java/util/Arrays" false T_156 := (xT_n (xT_n (xT_n (xT_l (s_iconst d156_0 (by decide +kernel))) (xT_n (xT_l (yS (y_istore_eq _ _) (s_istore_n d156_1))) (xT_l (yS (y_aload_eq _ _) (s_aload_n d156_2))))) (xT_n (xT_n (xT_l (s_alen d156_3)) (xT_l (yS (y_istore_eq _ _) (s_istore_n d156_4)))) (xT_n (xT_l (yS (y_iload_eq _ _) (s_iload_n d156_5))) (xT_l (yS (y_iload_eq _ _) (s_iload_n d156_6)))))) (xT_n (xT_n (xT_l (yS (y_icmp_eq yc3_eq _ _) (s_icmpge d156_7 (by decide +kernel)))) (xT_n (xT_l (yS (y_aload_eq _ _) (s_aload_n d156_10))) (xT_l (yS (y_iload_eq _ _) (s_iload_n d156_11))))) (xT_n (xT_n (xT_l (yS (y_iload_eq _ _) (s_iload_n d156_12))) (xT_l (yS (y_iast_eq _) (s_iast d156_13)))) (xT_n (xT_l (yS (y_iinc_eq _ _ _) (s_iinc d156_14 (by decide +kernel)))) (xT_l (s_goto d156_17 (by decide +kernel)))))))
set_option maxRecDepth 100000 in
set_option maxHeartbeats 4000000 in
theorem M_156 : xMeth PX 156 (T_156, 4, [(20, 3)]) := ⟨⟨"java/util/Arrays", "fill", "([II)V"⟩, prog_22_method_103_code, none, rfl, by decide, fun G => T_156_ok G, xrt_ok (xR_c (Or.inr (Or.inr (Or.inl ⟨rfl, d156_20, rfl⟩))) (xR_n))⟩
