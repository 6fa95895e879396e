theorem d54_0 : decode prog_1_method_22_code 0 = .ok (.iload_n 1, 1) := by decide +kernel
theorem d54_1 : decode prog_1_method_22_code 1 = .ok (.ifCond .lt 9, 3) := by decide +kernel
theorem d54_4 : decode prog_1_method_22_code 4 = .ok (.iload_n 1, 1) := by decide +kernel
theorem d54_5 : decode prog_1_method_22_code 5 = .ok (.bipush 60, 2) := by decide +kernel
theorem d54_7 : decode prog_1_method_22_code 7 = .ok (.if_icmp .le 5, 3) := by decide +kernel
theorem d54_10 : decode prog_1_method_22_code 10 = .ok (.iconst (-1), 1) := by decide +kernel
theorem d54_11 : decode prog_1_method_22_code 11 = .ok (.ireturn, 1) := by decide +kernel
theorem d54_12 : decode prog_1_method_22_code 12 = .ok (.iload_n 1, 1) := by decide +kernel
theorem d54_13 : decode prog_1_method_22_code 13 = .ok (.ifCond .le 33, 3) := by decide +kernel
theorem d54_16 : decode prog_1_method_22_code 16 = .ok (.aload_n 0, 1) := by decide +kernel
theorem d54_17 : decode prog_1_method_22_code 17 = .ok (.getfield 49, 3) := by decide +kernel
theorem d54_20 : decode prog_1_method_22_code 20 = .ok (.aload_n 0, 1) := by decide +kernel
theorem d54_21 : decode prog_1_method_22_code 21 = .ok (.getfield 39, 3) := by decide +kernel
theorem d54_24 : decode prog_1_method_22_code 24 = .ok (.invokevirtual 220, 3) := by decide +kernel
theorem d54_27 : decode prog_1_method_22_code 27 = .ok (.aload_n 0, 1) := by decide +kernel
theorem d54_28 : decode prog_1_method_22_code 28 = .ok (.getfield 82, 3) := by decide +kernel
theorem d54_31 : decode prog_1_method_22_code 31 = .ok (.aload_n 0, 1) := by decide +kernel
theorem d54_32 : decode prog_1_method_22_code 32 = .ok (.getfield 39, 3) := by decide +kernel
theorem d54_35 : decode prog_1_method_22_code 35 = .ok (.iload_n 1, 1) := by decide +kernel
theorem d54_36 : decode prog_1_method_22_code 36 = .ok (.aload_n 0, 1) := by decide +kernel
theorem d54_37 : decode prog_1_method_22_code 37 = .ok (.getfield 23, 3) := by decide +kernel
theorem d54_40 : decode prog_1_method_22_code 40 = .ok (.getfield 249, 3) := by decide +kernel
theorem d54_43 : decode prog_1_method_22_code 43 = .ok (.invokevirtual 252, 3) := by decide +kernel
theorem d54_46 : decode prog_1_method_22_code 46 = .ok (.aload_n 0, 1) := by decide +kernel
theorem d54_47 : decode prog_1_method_22_code 47 = .ok (.getfield 39, 3) := by decide +kernel
theorem d54_50 : decode prog_1_method_22_code 50 = .ok (.getfield 190, 3) := by decide +kernel
theorem d54_53 : decode prog_1_method_22_code 53 = .ok (.ireturn, 1) := by decide +kernel
noncomputable def T_54 : Nat → Option xF := bn 24 (bn 12 (bn 5 (bn 1 (bl 0 (y_iload 1 1)) (bn 4 (bl 1 (y_if yc2 10 4)) (bl 4 (y_iload 1 5)))) (bn 7 (bl 5 (x_const 2147483708 7)) (bn 10 (bl 7 (y_icmp yc5 12 10)) (bl 10 (x_const 2147483647 11))))) (bn 17 (bn 13 (bl 12 (y_iload 1 13)) (bn 16 (bl 13 (y_if yc5 46 16)) (bl 16 (y_aload 0 17)))) (bn 20 (bl 17 (y_getf 11 8 20)) (bn 21 (bl 20 (y_aload 0 21)) (bl 21 (y_getf 11 1 24)))))) (bn 36 (bn 31 (bn 27 (bl 24 (y_invV 0 1 2 27)) (bn 28 (bl 27 (y_aload 0 28)) (bl 28 (y_getf 11 3 31)))) (bn 32 (bl 31 (y_aload 0 32)) (bn 35 (bl 32 (y_getf 11 1 35)) (bl 35 (y_iload 1 36))))) (bn 43 (bn 37 (bl 36 (y_aload 0 37)) (bn 40 (bl 37 (y_getf 11 0 40)) (bl 40 (y_getf 6 3 43)))) (bn 47 (bn 46 (bl 43 (y_invV 4 16 4 46)) (bl 46 (y_aload 0 47))) (bn 50 (bl 47 (y_getf 11 1 50)) (bl 50 (y_getf 8 7 53))))))
set_option maxRecDepth 100000 in
set_option maxHeartbeats 4000000 in
theorem T_54_ok (G : State → Nat → Nat → Prop) : xTree PX G prog_1_method_22_code "CapitalCase" false T_54 := (xT_n (xT_n (xT_n (xT_n (xT_l (yS (y_iload_eq _ _) (s_iload_n d54_0))) (xT_n (xT_l (yS (y_if_eq yc2_eq _ _) (s_iflt d54_1 (by decide +kernel)))) (xT_l (yS (y_iload_eq _ _) (s_iload_n d54_4))))) (xT_n (xT_l (s_bipush d54_5 (by decide +kernel))) (xT_n (xT_l (yS (y_icmp_eq yc5_eq _ _) (s_icmple d54_7 (by decide +kernel)))) (xT_l (s_iconst d54_10 (by decide +kernel)))))) (xT_n (xT_n (xT_l (yS (y_iload_eq _ _) (s_iload_n d54_12))) (xT_n (xT_l (yS (y_if_eq yc5_eq _ _) (s_ifle d54_13 (by decide +kernel)))) (xT_l (yS (y_aload_eq _ _) (s_aload_n d54_16))))) (xT_n (xT_l (yS (y_getf_eq _ _ _) (s_getf (T := TX11) (N := 16) d54_17 rfl inX11 (by decide) wd_560))) (xT_n (xT_l (yS (y_aload_eq _ _) (s_aload_n d54_20))) (xT_l (yS (y_getf_eq _ _ _) (s_getf (T := TX11) (N := 16) d54_21 rfl inX11 (by decide) wd_558))))))) (xT_n (xT_n (xT_n (xT_l (yS (y_invV_eq _ _ _ _) (s_invV (T := TX0) d54_24 cal_1 rfl wd_967 wd_968 wd_969))) (xT_n (xT_l (yS (y_aload_eq _ _) (s_aload_n d54_27))) (xT_l (yS (y_getf_eq _ _ _) (s_getf (T := TX11) (N := 16) d54_28 rfl inX11 (by decide) wd_565))))) (xT_n (xT_l (yS (y_aload_eq _ _) (s_aload_n d54_31))) (xT_n (xT_l (yS (y_getf_eq _ _ _) (s_getf (T := TX11) (N := 16) d54_32 rfl inX11 (by decide) wd_558))) (xT_l (yS (y_iload_eq _ _) (s_iload_n d54_35)))))) (xT_n (xT_n (xT_l (yS (y_aload_eq _ _) (s_aload_n d54_36))) (xT_n (xT_l (yS (y_getf_eq _ _ _) (s_getf (T := TX11) (N := 16) d54_37 rfl inX11 (by decide) wd_556))) (xT_l (yS (y_getf_eq _ _ _) (s_getf (T := TX6) (N := 15) d54_40 rfl inX6 (by decide) wd_183))))) (xT_n (xT_n (xT_l (yS (y_invV_eq _ _ _ _) (s_invV (T := TX4) d54_43 cal_16 rfl wd_1005 wd_1006 wd_1007))) (xT_l (yS (y_aload_eq _ _) (s_aload_n d54_46)))) (xT_n (xT_l (yS (y_getf_eq _ _ _) (s_getf (T := TX11) (N := 16) d54_47 rfl inX11 (by decide) wd_558))) (xT_l (yS (y_getf_eq _ _ _) (s_getf (T := TX8) (N := 10) d54_50 rfl inX8 (by decide) wd_349))))))))
set_option maxRecDepth 100000 in
set_option maxHeartbeats 4000000 in
theorem M_54 : xMeth PX 54 (T_54, 2, [(11, 1), (53, 1)]) := ⟨⟨"CapitalCase", "days", "(I)I"⟩, prog_1_method_22_code, (some .int), rfl, by decide, fun G => T_54_ok G, xrt_ok (xR_c (Or.inl ⟨rfl, d54_11, rfl⟩) (xR_c (Or.inl ⟨rfl, d54_53, rfl⟩) (xR_n)))⟩
theorem d55_0 : decode prog_1_method_2_code 0 = .ok (.aload_n 0, 1) := by decide +kernel
theorem d55_1 : decode prog_1_method_2_code 1 = .ok (.getfield 13, 3) := by decide +kernel
theorem d55_4 : decode prog_1_method_2_code 4 = .ok (.bipush 20, 2) := by decide +kernel
theorem d55_6 : decode prog_1_method_2_code 6 = .ok (.iadd, 1) := by decide +kernel
theorem d55_7 : decode prog_1_method_2_code 7 = .ok (.sipush 2000, 3) := by decide +kernel
theorem d55_10 : decode prog_1_method_2_code 10 = .ok (.if_icmp .le 5, 3) := by decide +kernel
theorem d55_15 : decode prog_1_method_2_code 15 = .ok (.aload_n 0, 1) := by decide +kernel
theorem d55_16 : decode prog_1_method_2_code 16 = .ok (.iload_n 1, 1) := by decide +kernel
theorem d55_17 : decode prog_1_method_2_code 17 = .ok (.invokevirtual 109, 3) := by decide +kernel
theorem d55_20 : decode prog_1_method_2_code 20 = .ok (.aload_n 0, 1) := by decide +kernel
theorem d55_21 : decode prog_1_method_2_code 21 = .ok (.iload_n 2, 1) := by decide +kernel
theorem d55_22 : decode prog_1_method_2_code 22 = .ok (.invokevirtual 109, 3) := by decide +kernel
theorem d55_25 : decode prog_1_method_2_code 25 = .ok (.aload_n 0, 1) := by decide +kernel
theorem d55_26 : decode prog_1_method_2_code 26 = .ok (.iload_n 3, 1) := by decide +kernel
theorem d55_27 : decode prog_1_method_2_code 27 = .ok (.invokevirtual 109, 3) := by decide +kernel
theorem d55_30 : decode prog_1_method_2_code 30 = .ok (.aload_n 0, 1) := by decide +kernel
theorem d55_31 : decode prog_1_method_2_code 31 = .ok (.iload 4, 2) := by decide +kernel
theorem d55_33 : decode prog_1_method_2_code 33 = .ok (.invokevirtual 109, 3) := by decide +kernel
theorem d55_36 : decode prog_1_method_2_code 36 = .ok (.aload_n 0, 1) := by decide +kernel
theorem d55_37 : decode prog_1_method_2_code 37 = .ok (.iload 5, 2) := by decide +kernel
theorem d55_39 : decode prog_1_method_2_code 39 = .ok (.invokevirtual 109, 3) := by decide +kernel
theorem d55_42 : decode prog_1_method_2_code 42 = .ok (.aload_n 0, 1) := by decide +kernel
theorem d55_43 : decode prog_1_method_2_code 43 = .ok (.getfield 13, 3) := by decide +kernel
theorem d55_46 : decode prog_1_method_2_code 46 = .ok (.ireturn, 1) := by decide +kernel
noncomputable def T_55 : Nat → Option xF := bn 22 (bn 10 (bn 4 (bn 1 (bl 0 (y_aload 0 1)) (bl 1 (y_getf 11 6 4))) (bn 6 (bl 4 (x_const 2147483668 6)) (bn 7 (bl 6 (y_bin yadd 7)) (bl 7 (x_const 2147485648 10))))) (bn 17 (bn 15 (bl 10 (y_icmp yc5 15 13)) (bn 16 (bl 15 (y_aload 0 16)) (bl 16 (y_iload 1 17)))) (bn 20 (bl 17 (y_invV 11 45 2 20)) (bn 21 (bl 20 (y_aload 0 21)) (bl 21 (y_iload 2 22)))))) (bn 33 (bn 27 (bn 25 (bl 22 (y_invV 11 45 2 25)) (bn 26 (bl 25 (y_aload 0 26)) (bl 26 (y_iload 3 27)))) (bn 30 (bl 27 (y_invV 11 45 2 30)) (bn 31 (bl 30 (y_aload 0 31)) (bl 31 (y_iload 4 33))))) (bn 39 (bn 36 (bl 33 (y_invV 11 45 2 36)) (bn 37 (bl 36 (y_aload 0 37)) (bl 37 (y_iload 5 39)))) (bn 42 (bl 39 (y_invV 11 45 2 42)) (bn 43 (bl 42 (y_aload 0 43)) (bl 43 (y_getf 11 6 46))))))
set_option maxRecDepth 100000 in
set_option maxHeartbeats 4000000 in
theorem T_55_ok (G : State → Nat → Nat → Prop) : xTree PX G prog_1_method_2_code "CapitalCase" false T_55 := (xT_n (xT_n (xT_n (xT_n (xT_l (yS (y_aload_eq _ _) (s_aload_n d55_0))) (xT_l (yS (y_getf_eq _ _ _) (s_getf (T := TX11) (N := 16) d55_1 rfl inX11 (by decide) wd_554)))) (xT_n (xT_l (s_bipush d55_4 (by decide +kernel))) (xT_n (xT_l (yS (y_bin_eq _ _) (s_iadd d55_6))) (xT_l (s_sipush d55_7 (by decide +kernel)))))) (xT_n (xT_n (xT_l (yS (y_icmp_eq yc5_eq _ _) (s_icmple d55_10 (by decide +kernel)))) (xT_n (xT_l (yS (y_aload_eq _ _) (s_aload_n d55_15))) (xT_l (yS (y_iload_eq _ _) (s_iload_n d55_16))))) (xT_n (xT_l (yS (y_invV_eq _ _ _ _) (s_invV (T := TX11) d55_17 cal_45 rfl wd_606 wd_608 wd_1))) (xT_n (xT_l (yS (y_aload_eq _ _) (s_aload_n d55_20))) (xT_l (yS (y_iload_eq _ _) (s_iload_n d55_21))))))) (xT_n (xT_n (xT_n (xT_l (yS (y_invV_eq _ _ _ _) (s_invV (T := TX11) d55_22 cal_45 rfl wd_606 wd_608 wd_1))) (xT_n (xT_l (yS (y_aload_eq _ _) (s_aload_n d55_25))) (xT_l (yS (y_iload_eq _ _) (s_iload_n d55_26))))) (xT_n (xT_l (yS (y_invV_eq _ _ _ _) (s_invV (T := TX11) d55_27 cal_45 rfl wd_606 wd_608 wd_1))) (xT_n (xT_l (yS (y_aload_eq _ _) (s_aload_n d55_30))) (xT_l (yS (y_iload_eq _ _) (s_iload d55_31)))))) (xT_n (xT_n (xT_l (yS (y_invV_eq _ _ _ _) (s_invV (T := TX11) d55_33 cal_45 rfl wd_606 wd_608 wd_1))) (xT_n (xT_l (yS (y_aload_eq _ _) (s_aload_n d55_36))) (xT_l (yS (y_iload_eq _ _) (s_iload d55_37))))) (xT_n (xT_l (yS (y_invV_eq _ _ _ _) (s_invV (T := TX11) d55_39 cal_45 rfl wd_606 wd_608 wd_1))) (xT_n (xT_l (yS (y_aload_eq _ _) (s_aload_n d55_42))) (xT_l (yS (y_getf_eq _ _ _) (s_getf (T := TX11) (N := 16) d55_43 rfl inX11 (by decide) wd_554))))))))
set_option maxRecDepth 100000 in
set_option maxHeartbeats 4000000 in
theorem M_55 : xMeth PX 55 (T_55, 6, [(46, 1)]) := ⟨⟨"CapitalCase", "feed", "(IIIII)I"⟩, prog_1_method_2_code, (some .int), rfl, by decide, fun G => T_55_ok G, xrt_ok (xR_c (Or.inl ⟨rfl, d55_46, rfl⟩) (xR_n))⟩
theorem d56_0 : decode prog_1_method_39_code 0 = .ok (.aload_n 0, 1) := by decide +kernel
theorem d56_1 : decode prog_1_method_39_code 1 = .ok (.getfield 64, 3) := by decide +kernel
theorem d56_4 : decode prog_1_method_39_code 4 = .ok (.getfield 133, 3) := by decide +kernel
theorem d56_7 : decode prog_1_method_39_code 7 = .ok (.istore_n 1, 1) := by decide +kernel
theorem d56_8 : decode prog_1_method_39_code 8 = .ok (.aload_n 0, 1) := by decide +kernel
theorem d56_9 : decode prog_1_method_39_code 9 = .ok (.getfield 64, 3) := by decide +kernel
theorem d56_12 : decode prog_1_method_39_code 12 = .ok (.iconst 0, 1) := by decide +kernel
theorem d56_13 : decode prog_1_method_39_code 13 = .ok (.putfield 133, 3) := by decide +kernel
theorem d56_16 : decode prog_1_method_39_code 16 = .ok (.iload_n 1, 1) := by decide +kernel
theorem d56_17 : decode prog_1_method_39_code 17 = .ok (.ireturn, 1) := by decide +kernel
noncomputable def T_56 : Nat → Option xF := bn 8 (bn 4 (bn 1 (bl 0 (y_aload 0 1)) (bl 1 (y_getf 11 13 4))) (bn 7 (bl 4 (y_getf 5 3 7)) (bl 7 (y_istore 1 8)))) (bn 12 (bn 9 (bl 8 (y_aload 0 9)) (bl 9 (y_getf 11 13 12))) (bn 13 (bl 12 (x_const 2147483648 13)) (bn 16 (bl 13 (y_putf 5 3 0 16)) (bl 16 (y_iload 1 17)))))
set_option maxRecDepth 100000 in
set_option maxHeartbeats 4000000 in
theorem T_56_ok (G : State → Nat → Nat → Prop) : xTree PX G prog_1_method_39_code "CapitalCase" false T_56 := (xT_n (xT_n (xT_n (xT_l (yS (y_aload_eq _ _) (s_aload_n d56_0))) (xT_l (yS (y_getf_eq _ _ _) (s_getf (T := TX11) (N := 16) d56_1 rfl inX11 (by decide) wd_563)))) (xT_n (xT_l (yS (y_getf_eq _ _ _) (s_getf (T := TX5) (N := 4) d56_4 rfl inX5 (by decide) wd_405))) (xT_l (yS (y_istore_eq _ _) (s_istore_n d56_7))))) (xT_n (xT_n (xT_l (yS (y_aload_eq _ _) (s_aload_n d56_8))) (xT_l (yS (y_getf_eq _ _ _) (s_getf (T := TX11) (N := 16) d56_9 rfl inX11 (by decide) wd_563)))) (xT_n (xT_l (s_iconst d56_12 (by decide +kernel))) (xT_n (xT_l (yS (y_putf_eq _ _ _ _) (s_putf (T := TX5) (N := 4) (ty := tyX5) d56_13 rfl inX5 tyX5_ok nmX5 (by decide) wd_405 (Or.inl ⟨rfl, rfl⟩) rfl))) (xT_l (yS (y_iload_eq _ _) (s_iload_n d56_16)))))))
set_option maxRecDepth 100000 in
set_option maxHeartbeats 4000000 in
theorem M_56 : xMeth PX 56 (T_56, 2, [(17, 1)]) := ⟨⟨"CapitalCase", "forget", "()I"⟩, prog_1_method_39_code, (some .int), rfl, by decide, fun G => T_56_ok G, xrt_ok (xR_c (Or.inl ⟨rfl, d56_17, rfl⟩) (xR_n))⟩
theorem d57_0 : decode prog_1_method_24_code 0 = .ok (.aload_n 0, 1) := by decide +kernel
theorem d57_1 : decode prog_1_method_24_code 1 = .ok (.iload_n 1, 1) := by decide +kernel
theorem d57_2 : decode prog_1_method_24_code 2 = .ok (.iload_n 2, 1) := by decide +kernel
theorem d57_3 : decode prog_1_method_24_code 3 = .ok (.invokevirtual 260, 3) := by decide +kernel
theorem d57_6 : decode prog_1_method_24_code 6 = .ok (.iconst (-1), 1) := by decide +kernel
theorem d57_7 : decode prog_1_method_24_code 7 = .ok (.if_icmp .ne 5, 3) := by decide +kernel
theorem d57_10 : decode prog_1_method_24_code 10 = .ok (.iconst (-1), 1) := by decide +kernel
theorem d57_11 : decode prog_1_method_24_code 11 = .ok (.ireturn, 1) := by decide +kernel
noncomputable def T_57 : Nat → Option xF := bn 3 (bn 1 (bl 0 (y_aload 0 1)) (bn 2 (bl 1 (y_iload 1 2)) (bl 2 (y_iload 2 3)))) (bn 7 (bn 6 (bl 3 (y_invV 11 83 3 6)) (bl 6 (x_const 2147483647 7))) (bn 10 (bl 7 (y_icmp yc1 12 10)) (bl 10 (x_const 2147483647 11))))
set_option maxRecDepth 100000 in
set_option maxHeartbeats 4000000 in
theorem T_57_ok (G : State → Nat → Nat → Prop) : xTree PX G prog_1_method_24_code "CapitalCase" false T_57 := (xT_n (xT_n (xT_l (yS (y_aload_eq _ _) (s_aload_n d57_0))) (xT_n (xT_l (yS (y_iload_eq _ _) (s_iload_n d57_1))) (xT_l (yS (y_iload_eq _ _) (s_iload_n d57_2))))) (xT_n (xT_n (xT_l (yS (y_invV_eq _ _ _ _) (s_invV (T := TX11) d57_3 cal_83 rfl wd_1055 wd_911 wd_912))) (xT_l (s_iconst d57_6 (by decide +kernel)))) (xT_n (xT_l (yS (y_icmp_eq yc1_eq _ _) (s_icmpne d57_7 (by decide +kernel)))) (xT_l (s_iconst d57_10 (by decide +kernel))))))
set_option maxRecDepth 100000 in
set_option maxHeartbeats 4000000 in
theorem M_57 : xMeth PX 57 (T_57, 3, [(11, 1)]) := ⟨⟨"CapitalCase", "from", "(II)I"⟩, prog_1_method_24_code, (some .int), rfl, by decide, fun G => T_57_ok G, xrt_ok (xR_c (Or.inl ⟨rfl, d57_11, rfl⟩) (xR_n))⟩
theorem d58_0 : decode prog_1_method_21_code 0 = .ok (.aload_n 0, 1) := by decide +kernel
theorem d58_1 : decode prog_1_method_21_code 1 = .ok (.iload_n 1, 1) := by decide +kernel
theorem d58_2 : decode prog_1_method_21_code 2 = .ok (.iload_n 3, 1) := by decide +kernel
theorem d58_3 : decode prog_1_method_21_code 3 = .ok (.invokevirtual 147, 3) := by decide +kernel
theorem d58_6 : decode prog_1_method_21_code 6 = .ok (.ifCond .eq 17, 3) := by decide +kernel
theorem d58_23 : decode prog_1_method_21_code 23 = .ok (.iconst 0, 1) := by decide +kernel
theorem d58_24 : decode prog_1_method_21_code 24 = .ok (.ireturn, 1) := by decide +kernel
noncomputable def T_58 : Nat → Option xF := bn 3 (bn 1 (bl 0 (y_aload 0 1)) (bn 2 (bl 1 (y_iload 1 2)) (bl 2 (y_iload 3 3)))) (bn 6 (bl 3 (y_invV 11 62 3 6)) (bn 23 (bl 6 (y_if yc0 23 9)) (bl 23 (x_const 2147483648 24))))
set_option maxRecDepth 100000 in
set_option maxHeartbeats 4000000 in
theorem T_58_ok (G : State → Nat → Nat → Prop) : xTree PX G prog_1_method_21_code "CapitalCase" false T_58 := (xT_n (xT_n (xT_l (yS (y_aload_eq _ _) (s_aload_n d58_0))) (xT_n (xT_l (yS (y_iload_eq _ _) (s_iload_n d58_1))) (xT_l (yS (y_iload_eq _ _) (s_iload_n d58_2))))) (xT_n (xT_l (yS (y_invV_eq _ _ _ _) (s_invV (T := TX11) d58_3 cal_62 rfl wd_850 wd_852 wd_19))) (xT_n (xT_l (yS (y_if_eq yc0_eq _ _) (s_ifeq d58_6 (by decide +kernel)))) (xT_l (s_iconst d58_23 (by decide +kernel))))))
set_option maxRecDepth 100000 in
set_option maxHeartbeats 4000000 in
theorem M_58 : xMeth PX 58 (T_58, 5, [(24, 2)]) := ⟨⟨"CapitalCase", "giveBack", "(III)Z"⟩, prog_1_method_21_code, (some .boolean), rfl, by decide, fun G => T_58_ok G, xrt_ok (xR_c (Or.inr (Or.inl ⟨rfl, d58_24, rfl⟩)) (xR_n))⟩
theorem d59_0 : decode prog_1_method_46_code 0 = .ok (.iconst 0, 1) := by decide +kernel
theorem d59_1 : decode prog_1_method_46_code 1 = .ok (.istore_n 1, 1) := by decide +kernel
theorem d59_2 : decode prog_1_method_46_code 2 = .ok (.iconst 0, 1) := by decide +kernel
theorem d59_3 : decode prog_1_method_46_code 3 = .ok (.istore_n 2, 1) := by decide +kernel
theorem d59_4 : decode prog_1_method_46_code 4 = .ok (.iload_n 2, 1) := by decide +kernel
theorem d59_5 : decode prog_1_method_46_code 5 = .ok (.iconst 3, 1) := by decide +kernel
theorem d59_6 : decode prog_1_method_46_code 6 = .ok (.if_icmp .ge 21, 3) := by decide +kernel
theorem d59_9 : decode prog_1_method_46_code 9 = .ok (.aload_n 0, 1) := by decide +kernel
theorem d59_10 : decode prog_1_method_46_code 10 = .ok (.getfield 57, 3) := by decide +kernel
theorem d59_13 : decode prog_1_method_46_code 13 = .ok (.iload_n 2, 1) := by decide +kernel
theorem d59_14 : decode prog_1_method_46_code 14 = .ok (.baload, 1) := by decide +kernel
theorem d59_15 : decode prog_1_method_46_code 15 = .ok (.ifCond .eq 6, 3) := by decide +kernel
theorem d59_21 : decode prog_1_method_46_code 21 = .ok (.iinc 2 1, 3) := by decide +kernel
theorem d59_24 : decode prog_1_method_46_code 24 = .ok (.goto (-20), 3) := by decide +kernel
theorem d59_27 : decode prog_1_method_46_code 27 = .ok (.iload_n 1, 1) := by decide +kernel
theorem d59_28 : decode prog_1_method_46_code 28 = .ok (.ireturn, 1) := by decide +kernel
noncomputable def T_59 : Nat → Option xF := bn 9 (bn 3 (bn 1 (bl 0 (x_const 2147483648 1)) (bn 2 (bl 1 (y_istore 1 2)) (bl 2 (x_const 2147483648 3)))) (bn 5 (bn 4 (bl 3 (y_istore 2 4)) (bl 4 (y_iload 2 5))) (bn 6 (bl 5 (x_const 2147483651 6)) (bl 6 (y_icmp yc3 27 9))))) (bn 15 (bn 13 (bn 10 (bl 9 (y_aload 0 10)) (bl 10 (y_getf 11 12 13))) (bn 14 (bl 13 (y_iload 2 14)) (bl 14 (x_bald 15)))) (bn 24 (bn 21 (bl 15 (y_if yc0 21 18)) (bl 21 (y_iinc 2 2147483649 24))) (bn 27 (bl 24 (x_goto 4)) (bl 27 (y_iload 1 28)))))
set_option maxRecDepth 100000 in
set_option maxHeartbeats 4000000 in
theorem T_59_ok (G : State → Nat → Nat → Prop) : xTree PX G prog_1_method_46_code "CapitalCase" false T_59 := (xT_n (xT_n (xT_n (xT_l (s_iconst d59_0 (by decide +kernel))) (xT_n (xT_l (yS (y_istore_eq _ _) (s_istore_n d59_1))) (xT_l (s_iconst d59_2 (by decide +kernel))))) (xT_n (xT_n (xT_l (yS (y_istore_eq _ _) (s_istore_n d59_3))) (xT_l (yS (y_iload_eq _ _) (s_iload_n d59_4)))) (xT_n (xT_l (s_iconst d59_5 (by decide +kernel))) (xT_l (yS (y_icmp_eq yc3_eq _ _) (s_icmpge d59_6 (by decide +kernel))))))) (xT_n (xT_n (xT_n (xT_l (yS (y_aload_eq _ _) (s_aload_n d59_9))) (xT_l (yS (y_getf_eq _ _ _) (s_getf (T := TX11) (N := 16) d59_10 rfl inX11 (by decide) wd_562)))) (xT_n (xT_l (yS (y_iload_eq _ _) (s_iload_n d59_13))) (xT_l (s_bald d59_14)))) (xT_n (xT_n (xT_l (yS (y_if_eq yc0_eq _ _) (s_ifeq d59_15 (by decide +kernel)))) (xT_l (yS (y_iinc_eq _ _ _) (s_iinc d59_21 (by decide +kernel))))) (xT_n (xT_l (s_goto d59_24 (by decide +kernel))) (xT_l (yS (y_iload_eq _ _) (s_iload_n d59_27)))))))
set_option maxRecDepth 100000 in
set_option maxHeartbeats 4000000 in
theorem M_59 : xMeth PX 59 (T_59, 3, [(28, 1)]) := ⟨⟨"CapitalCase", "heldSlots", "()I"⟩, prog_1_method_46_code, (some .int), rfl, by decide, fun G => T_59_ok G, xrt_ok (xR_c (Or.inl ⟨rfl, d59_28, rfl⟩) (xR_n))⟩
theorem d60_0 : decode prog_1_method_42_code 0 = .ok (.iload_n 1, 1) := by decide +kernel
theorem d60_1 : decode prog_1_method_42_code 1 = .ok (.ifCond .lt 8, 3) := by decide +kernel
theorem d60_4 : decode prog_1_method_42_code 4 = .ok (.iload_n 1, 1) := by decide +kernel
theorem d60_5 : decode prog_1_method_42_code 5 = .ok (.iconst 3, 1) := by decide +kernel
theorem d60_6 : decode prog_1_method_42_code 6 = .ok (.if_icmp .lt 5, 3) := by decide +kernel
theorem d60_9 : decode prog_1_method_42_code 9 = .ok (.iconst 0, 1) := by decide +kernel
theorem d60_10 : decode prog_1_method_42_code 10 = .ok (.ireturn, 1) := by decide +kernel
theorem d60_11 : decode prog_1_method_42_code 11 = .ok (.aload_n 0, 1) := by decide +kernel
theorem d60_12 : decode prog_1_method_42_code 12 = .ok (.getfield 53, 3) := by decide +kernel
theorem d60_15 : decode prog_1_method_42_code 15 = .ok (.iload_n 1, 1) := by decide +kernel
theorem d60_16 : decode prog_1_method_42_code 16 = .ok (.aaload, 1) := by decide +kernel
theorem d60_17 : decode prog_1_method_42_code 17 = .ok (.ifnonnull 16, 3) := by decide +kernel
theorem d60_20 : decode prog_1_method_42_code 20 = .ok (.aload_n 0, 1) := by decide +kernel
theorem d60_21 : decode prog_1_method_42_code 21 = .ok (.getfield 53, 3) := by decide +kernel
theorem d60_24 : decode prog_1_method_42_code 24 = .ok (.iload_n 1, 1) := by decide +kernel
theorem d60_25 : decode prog_1_method_42_code 25 = .ok (.new 36, 3) := by decide +kernel
theorem d60_28 : decode prog_1_method_42_code 28 = .ok (.dup, 1) := by decide +kernel
theorem d60_29 : decode prog_1_method_42_code 29 = .ok (.invokespecial 38, 3) := by decide +kernel
theorem d60_32 : decode prog_1_method_42_code 32 = .ok (.aastore, 1) := by decide +kernel
theorem d60_33 : decode prog_1_method_42_code 33 = .ok (.aload_n 0, 1) := by decide +kernel
theorem d60_34 : decode prog_1_method_42_code 34 = .ok (.getfield 53, 3) := by decide +kernel
theorem d60_37 : decode prog_1_method_42_code 37 = .ok (.iload_n 1, 1) := by decide +kernel
theorem d60_38 : decode prog_1_method_42_code 38 = .ok (.aaload, 1) := by decide +kernel
theorem d60_39 : decode prog_1_method_42_code 39 = .ok (.aload_n 0, 1) := by decide +kernel
theorem d60_40 : decode prog_1_method_42_code 40 = .ok (.getfield 39, 3) := by decide +kernel
theorem d60_43 : decode prog_1_method_42_code 43 = .ok (.invokevirtual 275, 3) := by decide +kernel
theorem d60_46 : decode prog_1_method_42_code 46 = .ok (.aload_n 0, 1) := by decide +kernel
theorem d60_47 : decode prog_1_method_42_code 47 = .ok (.getfield 57, 3) := by decide +kernel
theorem d60_50 : decode prog_1_method_42_code 50 = .ok (.iload_n 1, 1) := by decide +kernel
theorem d60_51 : decode prog_1_method_42_code 51 = .ok (.iconst 1, 1) := by decide +kernel
theorem d60_52 : decode prog_1_method_42_code 52 = .ok (.bastore, 1) := by decide +kernel
theorem d60_53 : decode prog_1_method_42_code 53 = .ok (.iconst 1, 1) := by decide +kernel
theorem d60_54 : decode prog_1_method_42_code 54 = .ok (.ireturn, 1) := by decide +kernel
noncomputable def T_60 : Nat → Option xF := bn 28 (bn 12 (bn 5 (bn 1 (bl 0 (y_iload 1 1)) (bn 4 (bl 1 (y_if yc2 9 4)) (bl 4 (y_iload 1 5)))) (bn 9 (bn 6 (bl 5 (x_const 2147483651 6)) (bl 6 (y_icmp yc2 11 9))) (bn 11 (bl 9 (x_const 2147483648 10)) (bl 11 (y_aload 0 12))))) (bn 20 (bn 16 (bn 15 (bl 12 (y_getf 11 11 15)) (bl 15 (y_iload 1 16))) (bn 17 (bl 16 (x_aald 17)) (bl 17 (x_ifnonnull 33 20)))) (bn 24 (bn 21 (bl 20 (y_aload 0 21)) (bl 21 (y_getf 11 11 24))) (bn 25 (bl 24 (y_iload 1 25)) (bl 25 (x_new 8 10 [.inr (.inl none), .inr (.inl none), .inr (.inl none), .inr (.inl none), .inr (.inl none), .inl (2147483648, 2147483648), .inl (2147483648, 2147483648), .inl (2147483648, 2147483648), .inl (2147483648, 2147483648), .inl (2147483648, 2147483648)] 28)))))) (bn 40 (bn 34 (bn 32 (bn 29 (bl 28 (x_dup 29)) (bl 29 (y_invV 8 31 1 32))) (bn 33 (bl 32 (x_aast 8 33)) (bl 33 (y_aload 0 34)))) (bn 38 (bn 37 (bl 34 (y_getf 11 11 37)) (bl 37 (y_iload 1 38))) (bn 39 (bl 38 (x_aald 39)) (bl 39 (y_aload 0 40))))) (bn 50 (bn 46 (bn 43 (bl 40 (y_getf 11 1 43)) (bl 43 (y_invV 8 32 2 46))) (bn 47 (bl 46 (y_aload 0 47)) (bl 47 (y_getf 11 12 50)))) (bn 52 (bn 51 (bl 50 (y_iload 1 51)) (bl 51 (x_const 2147483649 52))) (bn 53 (bl 52 (x_bast 53)) (bl 53 (x_const 2147483649 54))))))
set_option maxRecDepth 100000 in
set_option maxHeartbeats 4000000 in
theorem T_60_ok (G : State → Nat → Nat → Prop) : xTree PX G prog_1_method_42_code "CapitalCase" false T_60 := (xT_n (xT_n (xT_n (xT_n (xT_l (yS (y_iload_eq _ _) (s_iload_n d60_0))) (xT_n (xT_l (yS (y_if_eq yc2_eq _ _) (s_iflt d60_1 (by decide +kernel)))) (xT_l (yS (y_iload_eq _ _) (s_iload_n d60_4))))) (xT_n (xT_n (xT_l (s_iconst d60_5 (by decide +kernel))) (xT_l (yS (y_icmp_eq yc2_eq _ _) (s_icmplt d60_6 (by decide +kernel))))) (xT_n (xT_l (s_iconst d60_9 (by decide +kernel))) (xT_l (yS (y_aload_eq _ _) (s_aload_n d60_11)))))) (xT_n (xT_n (xT_n (xT_l (yS (y_getf_eq _ _ _) (s_getf (T := TX11) (N := 16) d60_12 rfl inX11 (by decide) wd_561))) (xT_l (yS (y_iload_eq _ _) (s_iload_n d60_15)))) (xT_n (xT_l (s_aald d60_16)) (xT_l (s_ifnonnull d60_17 (by decide +kernel))))) (xT_n (xT_n (xT_l (yS (y_aload_eq _ _) (s_aload_n d60_20))) (xT_l (yS (y_getf_eq _ _ _) (s_getf (T := TX11) (N := 16) d60_21 rfl inX11 (by decide) wd_561)))) (xT_n (xT_l (yS (y_iload_eq _ _) (s_iload_n d60_24))) (xT_l (s_new (T := TX8) (ty := tyX8) d60_25 rfl inX8 tyX8_ok (by decide) (by decide) wd_314 wd_315 wd_116)))))) (xT_n (xT_n (xT_n (xT_n (xT_l (s_dup d60_28)) (xT_l (yS (y_invV_eq _ _ _ _) (s_invIN (host := "CapitalCase") d60_29 cal_31 (by decide +kernel) wd_317 rfl)))) (xT_n (xT_l (s_aast (T := TX8) d60_32 rfl)) (xT_l (yS (y_aload_eq _ _) (s_aload_n d60_33))))) (xT_n (xT_n (xT_l (yS (y_getf_eq _ _ _) (s_getf (T := TX11) (N := 16) d60_34 rfl inX11 (by decide) wd_561))) (xT_l (yS (y_iload_eq _ _) (s_iload_n d60_37)))) (xT_n (xT_l (s_aald d60_38)) (xT_l (yS (y_aload_eq _ _) (s_aload_n d60_39)))))) (xT_n (xT_n (xT_n (xT_l (yS (y_getf_eq _ _ _) (s_getf (T := TX11) (N := 16) d60_40 rfl inX11 (by decide) wd_558))) (xT_l (yS (y_invV_eq _ _ _ _) (s_invV (T := TX8) d60_43 cal_32 rfl wd_1082 wd_973 wd_974)))) (xT_n (xT_l (yS (y_aload_eq _ _) (s_aload_n d60_46))) (xT_l (yS (y_getf_eq _ _ _) (s_getf (T := TX11) (N := 16) d60_47 rfl inX11 (by decide) wd_562))))) (xT_n (xT_n (xT_l (yS (y_iload_eq _ _) (s_iload_n d60_50))) (xT_l (s_iconst d60_51 (by decide +kernel)))) (xT_n (xT_l (s_bast d60_52)) (xT_l (s_iconst d60_53 (by decide +kernel))))))))
set_option maxRecDepth 100000 in
set_option maxHeartbeats 4000000 in
theorem M_60 : xMeth PX 60 (T_60, 2, [(10, 2), (54, 2)]) := ⟨⟨"CapitalCase", "hold", "(I)Z"⟩, prog_1_method_42_code, (some .boolean), rfl, by decide, fun G => T_60_ok G, xrt_ok (xR_c (Or.inr (Or.inl ⟨rfl, d60_10, rfl⟩)) (xR_c (Or.inr (Or.inl ⟨rfl, d60_54, rfl⟩)) (xR_n)))⟩
theorem d61_0 : decode prog_1_method_12_code 0 = .ok (.aload_n 0, 1) := by decide +kernel
theorem d61_1 : decode prog_1_method_12_code 1 = .ok (.iload_n 1, 1) := by decide +kernel
theorem d61_2 : decode prog_1_method_12_code 2 = .ok (.iload_n 2, 1) := by decide +kernel
theorem d61_3 : decode prog_1_method_12_code 3 = .ok (.invokevirtual 147, 3) := by decide +kernel
theorem d61_6 : decode prog_1_method_12_code 6 = .ok (.ifCond .ne 5, 3) := by decide +kernel
theorem d61_9 : decode prog_1_method_12_code 9 = .ok (.iconst (-1), 1) := by decide +kernel
theorem d61_10 : decode prog_1_method_12_code 10 = .ok (.ireturn, 1) := by decide +kernel
noncomputable def T_61 : Nat → Option xF := bn 3 (bn 1 (bl 0 (y_aload 0 1)) (bn 2 (bl 1 (y_iload 1 2)) (bl 2 (y_iload 2 3)))) (bn 6 (bl 3 (y_invV 11 62 3 6)) (bn 9 (bl 6 (y_if yc1 11 9)) (bl 9 (x_const 2147483647 10))))
set_option maxRecDepth 100000 in
set_option maxHeartbeats 4000000 in
theorem T_61_ok (G : State → Nat → Nat → Prop) : xTree PX G prog_1_method_12_code "CapitalCase" false T_61 := (xT_n (xT_n (xT_l (yS (y_aload_eq _ _) (s_aload_n d61_0))) (xT_n (xT_l (yS (y_iload_eq _ _) (s_iload_n d61_1))) (xT_l (yS (y_iload_eq _ _) (s_iload_n d61_2))))) (xT_n (xT_l (yS (y_invV_eq _ _ _ _) (s_invV (T := TX11) d61_3 cal_62 rfl wd_850 wd_852 wd_19))) (xT_n (xT_l (yS (y_if_eq yc1_eq _ _) (s_ifne d61_6 (by decide +kernel)))) (xT_l (s_iconst d61_9 (by decide +kernel))))))
set_option maxRecDepth 100000 in
set_option maxHeartbeats 4000000 in
theorem M_61 : xMeth PX 61 (T_61, 5, [(10, 1)]) := ⟨⟨"CapitalCase", "house", "(III)I"⟩, prog_1_method_12_code, (some .int), rfl, by decide, fun G => T_61_ok G, xrt_ok (xR_c (Or.inl ⟨rfl, d61_10, rfl⟩) (xR_n))⟩
theorem d62_0 : decode prog_1_method_9_code 0 = .ok (.aload_n 0, 1) := by decide +kernel
theorem d62_1 : decode prog_1_method_9_code 1 = .ok (.iload_n 1, 1) := by decide +kernel
theorem d62_2 : decode prog_1_method_9_code 2 = .ok (.invokevirtual 137, 3) := by decide +kernel
theorem d62_5 : decode prog_1_method_9_code 5 = .ok (.ifCond .eq 17, 3) := by decide +kernel
theorem d62_22 : decode prog_1_method_9_code 22 = .ok (.iconst 0, 1) := by decide +kernel
theorem d62_23 : decode prog_1_method_9_code 23 = .ok (.ireturn, 1) := by decide +kernel
noncomputable def T_62 : Nat → Option xF := bn 2 (bn 1 (bl 0 (y_aload 0 1)) (bl 1 (y_iload 1 2))) (bn 5 (bl 2 (y_invV 11 63 2 5)) (bn 22 (bl 5 (y_if yc0 22 8)) (bl 22 (x_const 2147483648 23))))
set_option maxRecDepth 100000 in
set_option maxHeartbeats 4000000 in
theorem T_62_ok (G : State → Nat → Nat → Prop) : xTree PX G prog_1_method_9_code "CapitalCase" false T_62 := (xT_n (xT_n (xT_l (yS (y_aload_eq _ _) (s_aload_n d62_0))) (xT_l (yS (y_iload_eq _ _) (s_iload_n d62_1)))) (xT_n (xT_l (yS (y_invV_eq _ _ _ _) (s_invV (T := TX11) d62_2 cal_63 rfl wd_854 wd_856 wd_20))) (xT_n (xT_l (yS (y_if_eq yc0_eq _ _) (s_ifeq d62_5 (by decide +kernel)))) (xT_l (s_iconst d62_22 (by decide +kernel))))))
set_option maxRecDepth 100000 in
set_option maxHeartbeats 4000000 in
theorem M_62 : xMeth PX 62 (T_62, 3, [(23, 2)]) := ⟨⟨"CapitalCase", "isCell", "(II)Z"⟩, prog_1_method_9_code, (some .boolean), rfl, by decide, fun G => T_62_ok G, xrt_ok (xR_c (Or.inr (Or.inl ⟨rfl, d62_23, rfl⟩)) (xR_n))⟩
theorem d63_0 : decode prog_1_method_8_code 0 = .ok (.iload_n 1, 1) := by decide +kernel
theorem d63_1 : decode prog_1_method_8_code 1 = .ok (.ifCond .lt 18, 3) := by decide +kernel
theorem d63_4 : decode prog_1_method_8_code 4 = .ok (.iload_n 1, 1) := by decide +kernel
theorem d63_5 : decode prog_1_method_8_code 5 = .ok (.aload_n 0, 1) := by decide +kernel
theorem d63_6 : decode prog_1_method_8_code 6 = .ok (.getfield 23, 3) := by decide +kernel
theorem d63_9 : decode prog_1_method_8_code 9 = .ok (.getfield 134, 3) := by decide +kernel
theorem d63_12 : decode prog_1_method_8_code 12 = .ok (.if_icmp .ge 7, 3) := by decide +kernel
theorem d63_19 : decode prog_1_method_8_code 19 = .ok (.iconst 0, 1) := by decide +kernel
theorem d63_20 : decode prog_1_method_8_code 20 = .ok (.ireturn, 1) := by decide +kernel
noncomputable def T_63 : Nat → Option xF := bn 6 (bn 4 (bn 1 (bl 0 (y_iload 1 1)) (bl 1 (y_if yc2 19 4))) (bn 5 (bl 4 (y_iload 1 5)) (bl 5 (y_aload 0 6)))) (bn 12 (bn 9 (bl 6 (y_getf 11 0 9)) (bl 9 (y_getf 6 0 12))) (bn 19 (bl 12 (y_icmp yc3 19 15)) (bl 19 (x_const 2147483648 20))))
set_option maxRecDepth 100000 in
set_option maxHeartbeats 4000000 in
theorem T_63_ok (G : State → Nat → Nat → Prop) : xTree PX G prog_1_method_8_code "CapitalCase" false T_63 := (xT_n (xT_n (xT_n (xT_l (yS (y_iload_eq _ _) (s_iload_n d63_0))) (xT_l (yS (y_if_eq yc2_eq _ _) (s_iflt d63_1 (by decide +kernel))))) (xT_n (xT_l (yS (y_iload_eq _ _) (s_iload_n d63_4))) (xT_l (yS (y_aload_eq _ _) (s_aload_n d63_5))))) (xT_n (xT_n (xT_l (yS (y_getf_eq _ _ _) (s_getf (T := TX11) (N := 16) d63_6 rfl inX11 (by decide) wd_556))) (xT_l (yS (y_getf_eq _ _ _) (s_getf (T := TX6) (N := 15) d63_9 rfl inX6 (by decide) wd_167)))) (xT_n (xT_l (yS (y_icmp_eq yc3_eq _ _) (s_icmpge d63_12 (by decide +kernel)))) (xT_l (s_iconst d63_19 (by decide +kernel))))))
set_option maxRecDepth 100000 in
set_option maxHeartbeats 4000000 in
theorem M_63 : xMeth PX 63 (T_63, 2, [(20, 2)]) := ⟨⟨"CapitalCase", "isHouse", "(I)Z"⟩, prog_1_method_8_code, (some .boolean), rfl, by decide, fun G => T_63_ok G, xrt_ok (xR_c (Or.inr (Or.inl ⟨rfl, d63_20, rfl⟩)) (xR_n))⟩
theorem d64_0 : decode prog_1_method_10_code 0 = .ok (.iload_n 1, 1) := by decide +kernel
theorem d64_1 : decode prog_1_method_10_code 1 = .ok (.ifCond .lt 18, 3) := by decide +kernel
theorem d64_4 : decode prog_1_method_10_code 4 = .ok (.iload_n 1, 1) := by decide +kernel
theorem d64_5 : decode prog_1_method_10_code 5 = .ok (.aload_n 0, 1) := by decide +kernel
theorem d64_6 : decode prog_1_method_10_code 6 = .ok (.getfield 23, 3) := by decide +kernel
theorem d64_9 : decode prog_1_method_10_code 9 = .ok (.getfield 141, 3) := by decide +kernel
theorem d64_12 : decode prog_1_method_10_code 12 = .ok (.if_icmp .ge 7, 3) := by decide +kernel
theorem d64_19 : decode prog_1_method_10_code 19 = .ok (.iconst 0, 1) := by decide +kernel
theorem d64_20 : decode prog_1_method_10_code 20 = .ok (.ireturn, 1) := by decide +kernel
noncomputable def T_64 : Nat → Option xF := bn 6 (bn 4 (bn 1 (bl 0 (y_iload 1 1)) (bl 1 (y_if yc2 19 4))) (bn 5 (bl 4 (y_iload 1 5)) (bl 5 (y_aload 0 6)))) (bn 12 (bn 9 (bl 6 (y_getf 11 0 9)) (bl 9 (y_getf 6 1 12))) (bn 19 (bl 12 (y_icmp yc3 19 15)) (bl 19 (x_const 2147483648 20))))
set_option maxRecDepth 100000 in
set_option maxHeartbeats 4000000 in
theorem T_64_ok (G : State → Nat → Nat → Prop) : xTree PX G prog_1_method_10_code "CapitalCase" false T_64 := (xT_n (xT_n (xT_n (xT_l (yS (y_iload_eq _ _) (s_iload_n d64_0))) (xT_l (yS (y_if_eq yc2_eq _ _) (s_iflt d64_1 (by decide +kernel))))) (xT_n (xT_l (yS (y_iload_eq _ _) (s_iload_n d64_4))) (xT_l (yS (y_aload_eq _ _) (s_aload_n d64_5))))) (xT_n (xT_n (xT_l (yS (y_getf_eq _ _ _) (s_getf (T := TX11) (N := 16) d64_6 rfl inX11 (by decide) wd_556))) (xT_l (yS (y_getf_eq _ _ _) (s_getf (T := TX6) (N := 15) d64_9 rfl inX6 (by decide) wd_174)))) (xT_n (xT_l (yS (y_icmp_eq yc3_eq _ _) (s_icmpge d64_12 (by decide +kernel)))) (xT_l (s_iconst d64_19 (by decide +kernel))))))
set_option maxRecDepth 100000 in
set_option maxHeartbeats 4000000 in
theorem M_64 : xMeth PX 64 (T_64, 2, [(20, 2)]) := ⟨⟨"CapitalCase", "isVerse", "(I)Z"⟩, prog_1_method_10_code, (some .boolean), rfl, by decide, fun G => T_64_ok G, xrt_ok (xR_c (Or.inr (Or.inl ⟨rfl, d64_20, rfl⟩)) (xR_n))⟩
theorem d65_0 : decode prog_1_method_33_code 0 = .ok (.aload_n 0, 1) := by decide +kernel
theorem d65_1 : decode prog_1_method_33_code 1 = .ok (.getfield 39, 3) := by decide +kernel
theorem d65_4 : decode prog_1_method_33_code 4 = .ok (.aload_n 0, 1) := by decide +kernel
theorem d65_5 : decode prog_1_method_33_code 5 = .ok (.getfield 23, 3) := by decide +kernel
theorem d65_8 : decode prog_1_method_33_code 8 = .ok (.getfield 141, 3) := by decide +kernel
theorem d65_11 : decode prog_1_method_33_code 11 = .ok (.invokevirtual 144, 3) := by decide +kernel
theorem d65_14 : decode prog_1_method_33_code 14 = .ok (.istore_n 1, 1) := by decide +kernel
theorem d65_15 : decode prog_1_method_33_code 15 = .ok (.iconst 0, 1) := by decide +kernel
theorem d65_16 : decode prog_1_method_33_code 16 = .ok (.istore_n 2, 1) := by decide +kernel
theorem d65_17 : decode prog_1_method_33_code 17 = .ok (.iload_n 2, 1) := by decide +kernel
theorem d65_18 : decode prog_1_method_33_code 18 = .ok (.aload_n 0, 1) := by decide +kernel
theorem d65_19 : decode prog_1_method_33_code 19 = .ok (.getfield 23, 3) := by decide +kernel
theorem d65_22 : decode prog_1_method_33_code 22 = .ok (.getfield 141, 3) := by decide +kernel
theorem d65_25 : decode prog_1_method_33_code 25 = .ok (.if_icmp .ge 36, 3) := by decide +kernel
theorem d65_61 : decode prog_1_method_33_code 61 = .ok (.iload_n 1, 1) := by decide +kernel
theorem d65_62 : decode prog_1_method_33_code 62 = .ok (.ireturn, 1) := by decide +kernel
noncomputable def T_65 : Nat → Option xF := bn 15 (bn 5 (bn 1 (bl 0 (y_aload 0 1)) (bn 4 (bl 1 (y_getf 11 1 4)) (bl 4 (y_aload 0 5)))) (bn 11 (bn 8 (bl 5 (y_getf 11 0 8)) (bl 8 (y_getf 6 1 11))) (bn 14 (bl 11 (y_invV 8 35 2 14)) (bl 14 (y_istore 1 15))))) (bn 19 (bn 17 (bn 16 (bl 15 (x_const 2147483648 16)) (bl 16 (y_istore 2 17))) (bn 18 (bl 17 (y_iload 2 18)) (bl 18 (y_aload 0 19)))) (bn 25 (bn 22 (bl 19 (y_getf 11 0 22)) (bl 22 (y_getf 6 1 25))) (bn 61 (bl 25 (y_icmp yc3 61 28)) (bl 61 (y_iload 1 62)))))
set_option maxRecDepth 100000 in
set_option maxHeartbeats 4000000 in
theorem T_65_ok (G : State → Nat → Nat → Prop) : xTree PX G prog_1_method_33_code "CapitalCase" false T_65 := (xT_n (xT_n (xT_n (xT_l (yS (y_aload_eq _ _) (s_aload_n d65_0))) (xT_n (xT_l (yS (y_getf_eq _ _ _) (s_getf (T := TX11) (N := 16) d65_1 rfl inX11 (by decide) wd_558))) (xT_l (yS (y_aload_eq _ _) (s_aload_n d65_4))))) (xT_n (xT_n (xT_l (yS (y_getf_eq _ _ _) (s_getf (T := TX11) (N := 16) d65_5 rfl inX11 (by decide) wd_556))) (xT_l (yS (y_getf_eq _ _ _) (s_getf (T := TX6) (N := 15) d65_8 rfl inX6 (by decide) wd_174)))) (xT_n (xT_l (yS (y_invV_eq _ _ _ _) (s_invV (T := TX8) d65_11 cal_35 rfl wd_935 wd_936 wd_937))) (xT_l (yS (y_istore_eq _ _) (s_istore_n d65_14)))))) (xT_n (xT_n (xT_n (xT_l (s_iconst d65_15 (by decide +kernel))) (xT_l (yS (y_istore_eq _ _) (s_istore_n d65_16)))) (xT_n (xT_l (yS (y_iload_eq _ _) (s_iload_n d65_17))) (xT_l (yS (y_aload_eq _ _) (s_aload_n d65_18))))) (xT_n (xT_n (xT_l (yS (y_getf_eq _ _ _) (s_getf (T := TX11) (N := 16) d65_19 rfl inX11 (by decide) wd_556))) (xT_l (yS (y_getf_eq _ _ _) (s_getf (T := TX6) (N := 15) d65_22 rfl inX6 (by decide) wd_174)))) (xT_n (xT_l (yS (y_icmp_eq yc3_eq _ _) (s_icmpge d65_25 (by decide +kernel)))) (xT_l (yS (y_iload_eq _ _) (s_iload_n d65_61)))))))
set_option maxRecDepth 100000 in
set_option maxHeartbeats 4000000 in
theorem M_65 : xMeth PX 65 (T_65, 3, [(62, 1)]) := ⟨⟨"CapitalCase", "late", "()I"⟩, prog_1_method_33_code, (some .int), rfl, by decide, fun G => T_65_ok G, xrt_ok (xR_c (Or.inl ⟨rfl, d65_62, rfl⟩) (xR_n))⟩
theorem d66_0 : decode prog_1_method_20_code 0 = .ok (.aload_n 0, 1) := by decide +kernel
theorem d66_1 : decode prog_1_method_20_code 1 = .ok (.iload_n 1, 1) := by decide +kernel
theorem d66_2 : decode prog_1_method_20_code 2 = .ok (.iload_n 3, 1) := by decide +kernel
theorem d66_3 : decode prog_1_method_20_code 3 = .ok (.invokevirtual 147, 3) := by decide +kernel
theorem d66_6 : decode prog_1_method_20_code 6 = .ok (.ifCond .eq 33, 3) := by decide +kernel
theorem d66_39 : decode prog_1_method_20_code 39 = .ok (.iconst 0, 1) := by decide +kernel
theorem d66_40 : decode prog_1_method_20_code 40 = .ok (.ireturn, 1) := by decide +kernel
noncomputable def T_66 : Nat → Option xF := bn 3 (bn 1 (bl 0 (y_aload 0 1)) (bn 2 (bl 1 (y_iload 1 2)) (bl 2 (y_iload 3 3)))) (bn 6 (bl 3 (y_invV 11 62 3 6)) (bn 39 (bl 6 (y_if yc0 39 9)) (bl 39 (x_const 2147483648 40))))
set_option maxRecDepth 100000 in
set_option maxHeartbeats 4000000 in
theorem T_66_ok (G : State → Nat → Nat → Prop) : xTree PX G prog_1_method_20_code "CapitalCase" false T_66 := (xT_n (xT_n (xT_l (yS (y_aload_eq _ _) (s_aload_n d66_0))) (xT_n (xT_l (yS (y_iload_eq _ _) (s_iload_n d66_1))) (xT_l (yS (y_iload_eq _ _) (s_iload_n d66_2))))) (xT_n (xT_l (yS (y_invV_eq _ _ _ _) (s_invV (T := TX11) d66_3 cal_62 rfl wd_850 wd_852 wd_19))) (xT_n (xT_l (yS (y_if_eq yc0_eq _ _) (s_ifeq d66_6 (by decide +kernel)))) (xT_l (s_iconst d66_39 (by decide +kernel))))))
set_option maxRecDepth 100000 in
set_option maxHeartbeats 4000000 in
theorem M_66 : xMeth PX 66 (T_66, 4, [(40, 2)]) := ⟨⟨"CapitalCase", "lend", "(III)Z"⟩, prog_1_method_20_code, (some .boolean), rfl, by decide, fun G => T_66_ok G, xrt_ok (xR_c (Or.inr (Or.inl ⟨rfl, d66_40, rfl⟩)) (xR_n))⟩
theorem d67_0 : decode prog_1_method_29_code 0 = .ok (.aload_n 0, 1) := by decide +kernel
theorem d67_1 : decode prog_1_method_29_code 1 = .ok (.iload_n 1, 1) := by decide +kernel
theorem d67_2 : decode prog_1_method_29_code 2 = .ok (.invokevirtual 137, 3) := by decide +kernel
theorem d67_5 : decode prog_1_method_29_code 5 = .ok (.ifCond .eq 11, 3) := by decide +kernel
theorem d67_16 : decode prog_1_method_29_code 16 = .ok (.iconst (-1), 1) := by decide +kernel
theorem d67_17 : decode prog_1_method_29_code 17 = .ok (.ireturn, 1) := by decide +kernel
noncomputable def T_67 : Nat → Option xF := bn 2 (bn 1 (bl 0 (y_aload 0 1)) (bl 1 (y_iload 1 2))) (bn 5 (bl 2 (y_invV 11 63 2 5)) (bn 16 (bl 5 (y_if yc0 16 8)) (bl 16 (x_const 2147483647 17))))
set_option maxRecDepth 100000 in
set_option maxHeartbeats 4000000 in
theorem T_67_ok (G : State → Nat → Nat → Prop) : xTree PX G prog_1_method_29_code "CapitalCase" false T_67 := (xT_n (xT_n (xT_l (yS (y_aload_eq _ _) (s_aload_n d67_0))) (xT_l (yS (y_iload_eq _ _) (s_iload_n d67_1)))) (xT_n (xT_l (yS (y_invV_eq _ _ _ _) (s_invV (T := TX11) d67_2 cal_63 rfl wd_854 wd_856 wd_20))) (xT_n (xT_l (yS (y_if_eq yc0_eq _ _) (s_ifeq d67_5 (by decide +kernel)))) (xT_l (s_iconst d67_16 (by decide +kernel))))))
set_option maxRecDepth 100000 in
set_option maxHeartbeats 4000000 in
theorem M_67 : xMeth PX 67 (T_67, 3, [(17, 1)]) := ⟨⟨"CapitalCase", "loans", "(II)I"⟩, prog_1_method_29_code, (some .int), rfl, by decide, fun G => T_67_ok G, xrt_ok (xR_c (Or.inl ⟨rfl, d67_17, rfl⟩) (xR_n))⟩
theorem d68_0 : decode prog_1_method_36_code 0 = .ok (.iload_n 1, 1) := by decide +kernel
theorem d68_1 : decode prog_1_method_36_code 1 = .ok (.ifCond .lt 9, 3) := by decide +kernel
theorem d68_4 : decode prog_1_method_36_code 4 = .ok (.iload_n 1, 1) := by decide +kernel
theorem d68_5 : decode prog_1_method_36_code 5 = .ok (.bipush 60, 2) := by decide +kernel
theorem d68_7 : decode prog_1_method_36_code 7 = .ok (.if_icmp .le 5, 3) := by decide +kernel
theorem d68_10 : decode prog_1_method_36_code 10 = .ok (.iconst (-1), 1) := by decide +kernel
theorem d68_11 : decode prog_1_method_36_code 11 = .ok (.ireturn, 1) := by decide +kernel
theorem d68_12 : decode prog_1_method_36_code 12 = .ok (.aload_n 0, 1) := by decide +kernel
theorem d68_13 : decode prog_1_method_36_code 13 = .ok (.getfield 43, 3) := by decide +kernel
theorem d68_16 : decode prog_1_method_36_code 16 = .ok (.aload_n 0, 1) := by decide +kernel
theorem d68_17 : decode prog_1_method_36_code 17 = .ok (.getfield 39, 3) := by decide +kernel
theorem d68_20 : decode prog_1_method_36_code 20 = .ok (.invokevirtual 275, 3) := by decide +kernel
theorem d68_23 : decode prog_1_method_36_code 23 = .ok (.aload_n 0, 1) := by decide +kernel
theorem d68_24 : decode prog_1_method_36_code 24 = .ok (.getfield 82, 3) := by decide +kernel
theorem d68_27 : decode prog_1_method_36_code 27 = .ok (.aload_n 0, 1) := by decide +kernel
theorem d68_28 : decode prog_1_method_36_code 28 = .ok (.getfield 43, 3) := by decide +kernel
theorem d68_31 : decode prog_1_method_36_code 31 = .ok (.iload_n 1, 1) := by decide +kernel
theorem d68_32 : decode prog_1_method_36_code 32 = .ok (.aload_n 0, 1) := by decide +kernel
theorem d68_33 : decode prog_1_method_36_code 33 = .ok (.getfield 23, 3) := by decide +kernel
theorem d68_36 : decode prog_1_method_36_code 36 = .ok (.getfield 249, 3) := by decide +kernel
theorem d68_39 : decode prog_1_method_36_code 39 = .ok (.invokevirtual 252, 3) := by decide +kernel
theorem d68_42 : decode prog_1_method_36_code 42 = .ok (.aload_n 0, 1) := by decide +kernel
theorem d68_43 : decode prog_1_method_36_code 43 = .ok (.getfield 43, 3) := by decide +kernel
theorem d68_46 : decode prog_1_method_36_code 46 = .ok (.getfield 304, 3) := by decide +kernel
theorem d68_49 : decode prog_1_method_36_code 49 = .ok (.aload_n 0, 1) := by decide +kernel
theorem d68_50 : decode prog_1_method_36_code 50 = .ok (.getfield 39, 3) := by decide +kernel
theorem d68_53 : decode prog_1_method_36_code 53 = .ok (.getfield 304, 3) := by decide +kernel
theorem d68_56 : decode prog_1_method_36_code 56 = .ok (.isub, 1) := by decide +kernel
theorem d68_57 : decode prog_1_method_36_code 57 = .ok (.ireturn, 1) := by decide +kernel
noncomputable def T_68 : Nat → Option xF := bn 27 (bn 12 (bn 5 (bn 1 (bl 0 (y_iload 1 1)) (bn 4 (bl 1 (y_if yc2 10 4)) (bl 4 (y_iload 1 5)))) (bn 7 (bl 5 (x_const 2147483708 7)) (bn 10 (bl 7 (y_icmp yc5 12 10)) (bl 10 (x_const 2147483647 11))))) (bn 17 (bn 13 (bl 12 (y_aload 0 13)) (bn 16 (bl 13 (y_getf 11 2 16)) (bl 16 (y_aload 0 17)))) (bn 23 (bn 20 (bl 17 (y_getf 11 1 20)) (bl 20 (y_invV 8 32 2 23))) (bn 24 (bl 23 (y_aload 0 24)) (bl 24 (y_getf 11 3 27)))))) (bn 42 (bn 32 (bn 28 (bl 27 (y_aload 0 28)) (bn 31 (bl 28 (y_getf 11 2 31)) (bl 31 (y_iload 1 32)))) (bn 36 (bn 33 (bl 32 (y_aload 0 33)) (bl 33 (y_getf 11 0 36))) (bn 39 (bl 36 (y_getf 6 3 39)) (bl 39 (y_invV 4 16 4 42))))) (bn 49 (bn 43 (bl 42 (y_aload 0 43)) (bn 46 (bl 43 (y_getf 11 2 46)) (bl 46 (y_getf 8 8 49)))) (bn 53 (bn 50 (bl 49 (y_aload 0 50)) (bl 50 (y_getf 11 1 53))) (bn 56 (bl 53 (y_getf 8 8 56)) (bl 56 (y_bin ysub 57))))))
set_option maxRecDepth 100000 in
set_option maxHeartbeats 4000000 in
theorem T_68_ok (G : State → Nat → Nat → Prop) : xTree PX G prog_1_method_36_code "CapitalCase" false T_68 := (xT_n (xT_n (xT_n (xT_n (xT_l (yS (y_iload_eq _ _) (s_iload_n d68_0))) (xT_n (xT_l (yS (y_if_eq yc2_eq _ _) (s_iflt d68_1 (by decide +kernel)))) (xT_l (yS (y_iload_eq _ _) (s_iload_n d68_4))))) (xT_n (xT_l (s_bipush d68_5 (by decide +kernel))) (xT_n (xT_l (yS (y_icmp_eq yc5_eq _ _) (s_icmple d68_7 (by decide +kernel)))) (xT_l (s_iconst d68_10 (by decide +kernel)))))) (xT_n (xT_n (xT_l (yS (y_aload_eq _ _) (s_aload_n d68_12))) (xT_n (xT_l (yS (y_getf_eq _ _ _) (s_getf (T := TX11) (N := 16) d68_13 rfl inX11 (by decide) wd_559))) (xT_l (yS (y_aload_eq _ _) (s_aload_n d68_16))))) (xT_n (xT_n (xT_l (yS (y_getf_eq _ _ _) (s_getf (T := TX11) (N := 16) d68_17 rfl inX11 (by decide) wd_558))) (xT_l (yS (y_invV_eq _ _ _ _) (s_invV (T := TX8) d68_20 cal_32 rfl wd_1082 wd_973 wd_974)))) (xT_n (xT_l (yS (y_aload_eq _ _) (s_aload_n d68_23))) (xT_l (yS (y_getf_eq _ _ _) (s_getf (T := TX11) (N := 16) d68_24 rfl inX11 (by decide) wd_565))))))) (xT_n (xT_n (xT_n (xT_l (yS (y_aload_eq _ _) (s_aload_n d68_27))) (xT_n (xT_l (yS (y_getf_eq _ _ _) (s_getf (T := TX11) (N := 16) d68_28 rfl inX11 (by decide) wd_559))) (xT_l (yS (y_iload_eq _ _) (s_iload_n d68_31))))) (xT_n (xT_n (xT_l (yS (y_aload_eq _ _) (s_aload_n d68_32))) (xT_l (yS (y_getf_eq _ _ _) (s_getf (T := TX11) (N := 16) d68_33 rfl inX11 (by decide) wd_556)))) (xT_n (xT_l (yS (y_getf_eq _ _ _) (s_getf (T := TX6) (N := 15) d68_36 rfl inX6 (by decide) wd_183))) (xT_l (yS (y_invV_eq _ _ _ _) (s_invV (T := TX4) d68_39 cal_16 rfl wd_1005 wd_1006 wd_1007)))))) (xT_n (xT_n (xT_l (yS (y_aload_eq _ _) (s_aload_n d68_42))) (xT_n (xT_l (yS (y_getf_eq _ _ _) (s_getf (T := TX11) (N := 16) d68_43 rfl inX11 (by decide) wd_559))) (xT_l (yS (y_getf_eq _ _ _) (s_getf (T := TX8) (N := 10) d68_46 rfl inX8 (by decide) wd_352))))) (xT_n (xT_n (xT_l (yS (y_aload_eq _ _) (s_aload_n d68_49))) (xT_l (yS (y_getf_eq _ _ _) (s_getf (T := TX11) (N := 16) d68_50 rfl inX11 (by decide) wd_558)))) (xT_n (xT_l (yS (y_getf_eq _ _ _) (s_getf (T := TX8) (N := 10) d68_53 rfl inX8 (by decide) wd_352))) (xT_l (yS (y_bin_eq _ _) (s_isub d68_56))))))))
set_option maxRecDepth 100000 in
set_option maxHeartbeats 4000000 in
theorem M_68 : xMeth PX 68 (T_68, 2, [(11, 1), (57, 1)]) := ⟨⟨"CapitalCase", "paidIn", "(I)I"⟩, prog_1_method_36_code, (some .int), rfl, by decide, fun G => T_68_ok G, xrt_ok (xR_c (Or.inl ⟨rfl, d68_11, rfl⟩) (xR_c (Or.inl ⟨rfl, d68_57, rfl⟩) (xR_n)))⟩
theorem d69_0 : decode prog_1_method_27_code 0 = .ok (.iload_n 1, 1) := by decide +kernel
theorem d69_1 : decode prog_1_method_27_code 1 = .ok (.ifCond .lt 8, 3) := by decide +kernel
theorem d69_4 : decode prog_1_method_27_code 4 = .ok (.iload_n 1, 1) := by decide +kernel
theorem d69_5 : decode prog_1_method_27_code 5 = .ok (.iconst 1, 1) := by decide +kernel
theorem d69_6 : decode prog_1_method_27_code 6 = .ok (.if_icmp .le 5, 3) := by decide +kernel
theorem d69_9 : decode prog_1_method_27_code 9 = .ok (.iconst (-1), 1) := by decide +kernel
theorem d69_10 : decode prog_1_method_27_code 10 = .ok (.ireturn, 1) := by decide +kernel
theorem d69_11 : decode prog_1_method_27_code 11 = .ok (.bipush (-2), 2) := by decide +kernel
theorem d69_13 : decode prog_1_method_27_code 13 = .ok (.istore_n 2, 1) := by decide +kernel
theorem d69_14 : decode prog_1_method_27_code 14 = .ok (.bipush (-2), 2) := by decide +kernel
theorem d69_16 : decode prog_1_method_27_code 16 = .ok (.istore_n 3, 1) := by decide +kernel
theorem d69_17 : decode prog_1_method_27_code 17 = .ok (.iconst 0, 1) := by decide +kernel
theorem d69_18 : decode prog_1_method_27_code 18 = .ok (.istore 4, 2) := by decide +kernel
theorem d69_20 : decode prog_1_method_27_code 20 = .ok (.iload 4, 2) := by decide +kernel
theorem d69_22 : decode prog_1_method_27_code 22 = .ok (.aload_n 0, 1) := by decide +kernel
theorem d69_23 : decode prog_1_method_27_code 23 = .ok (.getfield 23, 3) := by decide +kernel
theorem d69_26 : decode prog_1_method_27_code 26 = .ok (.getfield 134, 3) := by decide +kernel
theorem d69_29 : decode prog_1_method_27_code 29 = .ok (.if_icmp .ge 49, 3) := by decide +kernel
theorem d69_78 : decode prog_1_method_27_code 78 = .ok (.iload_n 1, 1) := by decide +kernel
theorem d69_79 : decode prog_1_method_27_code 79 = .ok (.ifCond .ne 7, 3) := by decide +kernel
theorem d69_82 : decode prog_1_method_27_code 82 = .ok (.iload_n 2, 1) := by decide +kernel
theorem d69_83 : decode prog_1_method_27_code 83 = .ok (.goto 4, 3) := by decide +kernel
theorem d69_86 : decode prog_1_method_27_code 86 = .ok (.iload_n 3, 1) := by decide +kernel
theorem d69_87 : decode prog_1_method_27_code 87 = .ok (.ireturn, 1) := by decide +kernel
noncomputable def T_69 : Nat → Option xF := bn 18 (bn 9 (bn 4 (bn 1 (bl 0 (y_iload 1 1)) (bl 1 (y_if yc2 9 4))) (bn 5 (bl 4 (y_iload 1 5)) (bn 6 (bl 5 (x_const 2147483649 6)) (bl 6 (y_icmp yc5 11 9))))) (bn 14 (bn 11 (bl 9 (x_const 2147483647 10)) (bn 13 (bl 11 (x_const 2147483646 13)) (bl 13 (y_istore 2 14)))) (bn 16 (bl 14 (x_const 2147483646 16)) (bn 17 (bl 16 (y_istore 3 17)) (bl 17 (x_const 2147483648 18)))))) (bn 29 (bn 22 (bn 20 (bl 18 (y_istore 4 20)) (bl 20 (y_iload 4 22))) (bn 23 (bl 22 (y_aload 0 23)) (bn 26 (bl 23 (y_getf 11 0 26)) (bl 26 (y_getf 6 0 29))))) (bn 82 (bn 78 (bl 29 (y_icmp yc3 78 32)) (bn 79 (bl 78 (y_iload 1 79)) (bl 79 (y_if yc1 86 82)))) (bn 83 (bl 82 (y_iload 2 83)) (bn 86 (bl 83 (x_goto 87)) (bl 86 (y_iload 3 87))))))
set_option maxRecDepth 100000 in
set_option maxHeartbeats 4000000 in
theorem T_69_ok (G : State → Nat → Nat → Prop) : xTree PX G prog_1_method_27_code "CapitalCase" false T_69 := (xT_n (xT_n (xT_n (xT_n (xT_l (yS (y_iload_eq _ _) (s_iload_n d69_0))) (xT_l (yS (y_if_eq yc2_eq _ _) (s_iflt d69_1 (by decide +kernel))))) (xT_n (xT_l (yS (y_iload_eq _ _) (s_iload_n d69_4))) (xT_n (xT_l (s_iconst d69_5 (by decide +kernel))) (xT_l (yS (y_icmp_eq yc5_eq _ _) (s_icmple d69_6 (by decide +kernel))))))) (xT_n (xT_n (xT_l (s_iconst d69_9 (by decide +kernel))) (xT_n (xT_l (s_bipush d69_11 (by decide +kernel))) (xT_l (yS (y_istore_eq _ _) (s_istore_n d69_13))))) (xT_n (xT_l (s_bipush d69_14 (by decide +kernel))) (xT_n (xT_l (yS (y_istore_eq _ _) (s_istore_n d69_16))) (xT_l (s_iconst d69_17 (by decide +kernel))))))) (xT_n (xT_n (xT_n (xT_l (yS (y_istore_eq _ _) (s_istore d69_18))) (xT_l (yS (y_iload_eq _ _) (s_iload d69_20)))) (xT_n (xT_l (yS (y_aload_eq _ _) (s_aload_n d69_22))) (xT_n (xT_l (yS (y_getf_eq _ _ _) (s_getf (T := TX11) (N := 16) d69_23 rfl inX11 (by decide) wd_556))) (xT_l (yS (y_getf_eq _ _ _) (s_getf (T := TX6) (N := 15) d69_26 rfl inX6 (by decide) wd_167)))))) (xT_n (xT_n (xT_l (yS (y_icmp_eq yc3_eq _ _) (s_icmpge d69_29 (by decide +kernel)))) (xT_n (xT_l (yS (y_iload_eq _ _) (s_iload_n d69_78))) (xT_l (yS (y_if_eq yc1_eq _ _) (s_ifne d69_79 (by decide +kernel)))))) (xT_n (xT_l (yS (y_iload_eq _ _) (s_iload_n d69_82))) (xT_n (xT_l (s_goto d69_83 (by decide +kernel))) (xT_l (yS (y_iload_eq _ _) (s_iload_n d69_86))))))))
set_option maxRecDepth 100000 in
set_option maxHeartbeats 4000000 in
theorem M_69 : xMeth PX 69 (T_69, 5, [(10, 1), (87, 1)]) := ⟨⟨"CapitalCase", "pillar", "(I)I"⟩, prog_1_method_27_code, (some .int), rfl, by decide, fun G => T_69_ok G, xrt_ok (xR_c (Or.inl ⟨rfl, d69_10, rfl⟩) (xR_c (Or.inl ⟨rfl, d69_87, rfl⟩) (xR_n)))⟩
theorem d70_0 : decode prog_1_method_7_code 0 = .ok (.aload_n 0, 1) := by decide +kernel
theorem d70_1 : decode prog_1_method_7_code 1 = .ok (.getfield 17, 3) := by decide +kernel
theorem d70_4 : decode prog_1_method_7_code 4 = .ok (.ireturn, 1) := by decide +kernel
noncomputable def T_70 : Nat → Option xF := bn 1 (bl 0 (y_aload 0 1)) (bl 1 (y_getf 11 9 4))
set_option maxRecDepth 100000 in
set_option maxHeartbeats 4000000 in
theorem T_70_ok (G : State → Nat → Nat → Prop) : xTree PX G prog_1_method_7_code "CapitalCase" false T_70 := (xT_n (xT_l (yS (y_aload_eq _ _) (s_aload_n d70_0))) (xT_l (yS (y_getf_eq _ _ _) (s_getf (T := TX11) (N := 16) d70_1 rfl inX11 (by decide) wd_555))))
set_option maxRecDepth 100000 in
set_option maxHeartbeats 4000000 in
theorem M_70 : xMeth PX 70 (T_70, 1, [(4, 1)]) := ⟨⟨"CapitalCase", "place", "()I"⟩, prog_1_method_7_code, (some .int), rfl, by decide, fun G => T_70_ok G, xrt_ok (xR_c (Or.inl ⟨rfl, d70_4, rfl⟩) (xR_n))⟩
theorem d71_0 : decode prog_1_method_5_code 0 = .ok (.aload_n 0, 1) := by decide +kernel
theorem d71_1 : decode prog_1_method_5_code 1 = .ok (.getfield 32, 3) := by decide +kernel
theorem d71_4 : decode prog_1_method_5_code 4 = .ok (.aload_n 0, 1) := by decide +kernel
theorem d71_5 : decode prog_1_method_5_code 5 = .ok (.getfield 13, 3) := by decide +kernel
theorem d71_8 : decode prog_1_method_5_code 8 = .ok (.invokevirtual 113, 3) := by decide +kernel
theorem d71_11 : decode prog_1_method_5_code 11 = .ok (.istore_n 1, 1) := by decide +kernel
theorem d71_12 : decode prog_1_method_5_code 12 = .ok (.aload_n 0, 1) := by decide +kernel
theorem d71_13 : decode prog_1_method_5_code 13 = .ok (.iconst 0, 1) := by decide +kernel
theorem d71_14 : decode prog_1_method_5_code 14 = .ok (.putfield 13, 3) := by decide +kernel
theorem d71_17 : decode prog_1_method_5_code 17 = .ok (.aload_n 0, 1) := by decide +kernel
theorem d71_18 : decode prog_1_method_5_code 18 = .ok (.iload_n 1, 1) := by decide +kernel
theorem d71_19 : decode prog_1_method_5_code 19 = .ok (.ifCond .ne 7, 3) := by decide +kernel
theorem d71_22 : decode prog_1_method_5_code 22 = .ok (.iconst (-1), 1) := by decide +kernel
theorem d71_23 : decode prog_1_method_5_code 23 = .ok (.goto 10, 3) := by decide +kernel
theorem d71_33 : decode prog_1_method_5_code 33 = .ok (.putfield 17, 3) := by decide +kernel
theorem d71_36 : decode prog_1_method_5_code 36 = .ok (.iload_n 1, 1) := by decide +kernel
theorem d71_37 : decode prog_1_method_5_code 37 = .ok (.ifCond .ne 21, 3) := by decide +kernel
theorem d71_40 : decode prog_1_method_5_code 40 = .ok (.aload_n 0, 1) := by decide +kernel
theorem d71_41 : decode prog_1_method_5_code 41 = .ok (.getfield 23, 3) := by decide +kernel
theorem d71_44 : decode prog_1_method_5_code 44 = .ok (.aload_n 0, 1) := by decide +kernel
theorem d71_45 : decode prog_1_method_5_code 45 = .ok (.getfield 32, 3) := by decide +kernel
theorem d71_48 : decode prog_1_method_5_code 48 = .ok (.getfield 120, 3) := by decide +kernel
theorem d71_51 : decode prog_1_method_5_code 51 = .ok (.invokevirtual 121, 3) := by decide +kernel
theorem d71_54 : decode prog_1_method_5_code 54 = .ok (.aload_n 0, 1) := by decide +kernel
theorem d71_55 : decode prog_1_method_5_code 55 = .ok (.invokevirtual 124, 3) := by decide +kernel
theorem d71_58 : decode prog_1_method_5_code 58 = .ok (.iload_n 1, 1) := by decide +kernel
theorem d71_59 : decode prog_1_method_5_code 59 = .ok (.ireturn, 1) := by decide +kernel
noncomputable def T_71 : Nat → Option xF := bn 23 (bn 12 (bn 5 (bn 1 (bl 0 (y_aload 0 1)) (bn 4 (bl 1 (y_getf 11 10 4)) (bl 4 (y_aload 0 5)))) (bn 8 (bl 5 (y_getf 11 6 8)) (bn 11 (bl 8 (y_invV 2 6 2 11)) (bl 11 (y_istore 1 12))))) (bn 17 (bn 13 (bl 12 (y_aload 0 13)) (bn 14 (bl 13 (x_const 2147483648 14)) (bl 14 (y_putf 11 6 0 17)))) (bn 19 (bn 18 (bl 17 (y_aload 0 18)) (bl 18 (y_iload 1 19))) (bn 22 (bl 19 (y_if yc1 26 22)) (bl 22 (x_const 2147483647 23)))))) (bn 44 (bn 37 (bn 33 (bl 23 (x_goto 33)) (bn 36 (bl 33 (y_putf 11 9 0 36)) (bl 36 (y_iload 1 37)))) (bn 40 (bl 37 (y_if yc1 58 40)) (bn 41 (bl 40 (y_aload 0 41)) (bl 41 (y_getf 11 0 44))))) (bn 51 (bn 45 (bl 44 (y_aload 0 45)) (bn 48 (bl 45 (y_getf 11 10 48)) (bl 48 (y_getf 2 0 51)))) (bn 55 (bn 54 (bl 51 (y_invV 6 26 2 54)) (bl 54 (y_aload 0 55))) (bn 58 (bl 55 (y_invV 11 49 1 58)) (bl 58 (y_iload 1 59))))))
set_option maxRecDepth 100000 in
set_option maxHeartbeats 4000000 in
theorem T_71_ok (G : State → Nat → Nat → Prop) : xTree PX G prog_1_method_5_code "CapitalCase" false T_71 := (xT_n (xT_n (xT_n (xT_n (xT_l (yS (y_aload_eq _ _) (s_aload_n d71_0))) (xT_n (xT_l (yS (y_getf_eq _ _ _) (s_getf (T := TX11) (N := 16) d71_1 rfl inX11 (by decide) wd_557))) (xT_l (yS (y_aload_eq _ _) (s_aload_n d71_4))))) (xT_n (xT_l (yS (y_getf_eq _ _ _) (s_getf (T := TX11) (N := 16) d71_5 rfl inX11 (by decide) wd_554))) (xT_n (xT_l (yS (y_invV_eq _ _ _ _) (s_invV (T := TX2) d71_8 cal_6 rfl wd_618 wd_619 wd_620))) (xT_l (yS (y_istore_eq _ _) (s_istore_n d71_11)))))) (xT_n (xT_n (xT_l (yS (y_aload_eq _ _) (s_aload_n d71_12))) (xT_n (xT_l (s_iconst d71_13 (by decide +kernel))) (xT_l (yS (y_putf_eq _ _ _ _) (s_putf (T := TX11) (N := 16) (ty := tyX11) d71_14 rfl inX11 tyX11_ok nmX11 (by decide) wd_554 (Or.inl ⟨rfl, rfl⟩) rfl))))) (xT_n (xT_n (xT_l (yS (y_aload_eq _ _) (s_aload_n d71_17))) (xT_l (yS (y_iload_eq _ _) (s_iload_n d71_18)))) (xT_n (xT_l (yS (y_if_eq yc1_eq _ _) (s_ifne d71_19 (by decide +kernel)))) (xT_l (s_iconst d71_22 (by decide +kernel))))))) (xT_n (xT_n (xT_n (xT_l (s_goto d71_23 (by decide +kernel))) (xT_n (xT_l (yS (y_putf_eq _ _ _ _) (s_putf (T := TX11) (N := 16) (ty := tyX11) d71_33 rfl inX11 tyX11_ok nmX11 (by decide) wd_555 (Or.inl ⟨rfl, rfl⟩) rfl))) (xT_l (yS (y_iload_eq _ _) (s_iload_n d71_36))))) (xT_n (xT_l (yS (y_if_eq yc1_eq _ _) (s_ifne d71_37 (by decide +kernel)))) (xT_n (xT_l (yS (y_aload_eq _ _) (s_aload_n d71_40))) (xT_l (yS (y_getf_eq _ _ _) (s_getf (T := TX11) (N := 16) d71_41 rfl inX11 (by decide) wd_556)))))) (xT_n (xT_n (xT_l (yS (y_aload_eq _ _) (s_aload_n d71_44))) (xT_n (xT_l (yS (y_getf_eq _ _ _) (s_getf (T := TX11) (N := 16) d71_45 rfl inX11 (by decide) wd_557))) (xT_l (yS (y_getf_eq _ _ _) (s_getf (T := TX2) (N := 10) d71_48 rfl inX2 (by decide) wd_282))))) (xT_n (xT_n (xT_l (yS (y_invV_eq _ _ _ _) (s_invV (T := TX6) d71_51 cal_26 rfl wd_825 wd_826 wd_827))) (xT_l (yS (y_aload_eq _ _) (s_aload_n d71_54)))) (xT_n (xT_l (yS (y_invV_eq _ _ _ _) (s_invV (T := TX11) d71_55 cal_49 rfl wd_832 wd_834 wd_18))) (xT_l (yS (y_iload_eq _ _) (s_iload_n d71_58))))))))
set_option maxRecDepth 100000 in
set_option maxHeartbeats 4000000 in
theorem M_71 : xMeth PX 71 (T_71, 2, [(59, 1)]) := ⟨⟨"CapitalCase", "read", "()I"⟩, prog_1_method_5_code, (some .int), rfl, by decide, fun G => T_71_ok G, xrt_ok (xR_c (Or.inl ⟨rfl, d71_59, rfl⟩) (xR_n))⟩
theorem d72_0 : decode prog_1_method_43_code 0 = .ok (.iload_n 1, 1) := by decide +kernel
theorem d72_1 : decode prog_1_method_43_code 1 = .ok (.ifCond .lt 26, 3) := by decide +kernel
theorem d72_4 : decode prog_1_method_43_code 4 = .ok (.iload_n 1, 1) := by decide +kernel
theorem d72_5 : decode prog_1_method_43_code 5 = .ok (.iconst 3, 1) := by decide +kernel
theorem d72_6 : decode prog_1_method_43_code 6 = .ok (.if_icmp .ge 21, 3) := by decide +kernel
theorem d72_9 : decode prog_1_method_43_code 9 = .ok (.aload_n 0, 1) := by decide +kernel
theorem d72_10 : decode prog_1_method_43_code 10 = .ok (.getfield 57, 3) := by decide +kernel
theorem d72_13 : decode prog_1_method_43_code 13 = .ok (.iload_n 1, 1) := by decide +kernel
theorem d72_14 : decode prog_1_method_43_code 14 = .ok (.baload, 1) := by decide +kernel
theorem d72_15 : decode prog_1_method_43_code 15 = .ok (.ifCond .eq 12, 3) := by decide +kernel
theorem d72_27 : decode prog_1_method_43_code 27 = .ok (.iconst 0, 1) := by decide +kernel
theorem d72_28 : decode prog_1_method_43_code 28 = .ok (.ireturn, 1) := by decide +kernel
noncomputable def T_72 : Nat → Option xF := bn 9 (bn 4 (bn 1 (bl 0 (y_iload 1 1)) (bl 1 (y_if yc2 27 4))) (bn 5 (bl 4 (y_iload 1 5)) (bn 6 (bl 5 (x_const 2147483651 6)) (bl 6 (y_icmp yc3 27 9))))) (bn 14 (bn 10 (bl 9 (y_aload 0 10)) (bn 13 (bl 10 (y_getf 11 12 13)) (bl 13 (y_iload 1 14)))) (bn 15 (bl 14 (x_bald 15)) (bn 27 (bl 15 (y_if yc0 27 18)) (bl 27 (x_const 2147483648 28)))))
set_option maxRecDepth 100000 in
set_option maxHeartbeats 4000000 in
theorem T_72_ok (G : State → Nat → Nat → Prop) : xTree PX G prog_1_method_43_code "CapitalCase" false T_72 := (xT_n (xT_n (xT_n (xT_l (yS (y_iload_eq _ _) (s_iload_n d72_0))) (xT_l (yS (y_if_eq yc2_eq _ _) (s_iflt d72_1 (by decide +kernel))))) (xT_n (xT_l (yS (y_iload_eq _ _) (s_iload_n d72_4))) (xT_n (xT_l (s_iconst d72_5 (by decide +kernel))) (xT_l (yS (y_icmp_eq yc3_eq _ _) (s_icmpge d72_6 (by decide +kernel))))))) (xT_n (xT_n (xT_l (yS (y_aload_eq _ _) (s_aload_n d72_9))) (xT_n (xT_l (yS (y_getf_eq _ _ _) (s_getf (T := TX11) (N := 16) d72_10 rfl inX11 (by decide) wd_562))) (xT_l (yS (y_iload_eq _ _) (s_iload_n d72_13))))) (xT_n (xT_l (s_bald d72_14)) (xT_n (xT_l (yS (y_if_eq yc0_eq _ _) (s_ifeq d72_15 (by decide +kernel)))) (xT_l (s_iconst d72_27 (by decide +kernel)))))))
set_option maxRecDepth 100000 in
set_option maxHeartbeats 4000000 in
theorem M_72 : xMeth PX 72 (T_72, 2, [(28, 2)]) := ⟨⟨"CapitalCase", "restore", "(I)Z"⟩, prog_1_method_43_code, (some .boolean), rfl, by decide, fun G => T_72_ok G, xrt_ok (xR_c (Or.inr (Or.inl ⟨rfl, d72_28, rfl⟩)) (xR_n))⟩
theorem d73_0 : decode prog_1_method_17_code 0 = .ok (.aload_n 0, 1) := by decide +kernel
theorem d73_1 : decode prog_1_method_17_code 1 = .ok (.iload_n 1, 1) := by decide +kernel
theorem d73_2 : decode prog_1_method_17_code 2 = .ok (.invokevirtual 175, 3) := by decide +kernel
theorem d73_5 : decode prog_1_method_17_code 5 = .ok (.ifCond .eq 19, 3) := by decide +kernel
theorem d73_24 : decode prog_1_method_17_code 24 = .ok (.iconst 0, 1) := by decide +kernel
theorem d73_25 : decode prog_1_method_17_code 25 = .ok (.ireturn, 1) := by decide +kernel
noncomputable def T_73 : Nat → Option xF := bn 2 (bn 1 (bl 0 (y_aload 0 1)) (bl 1 (y_iload 1 2))) (bn 5 (bl 2 (y_invV 11 64 2 5)) (bn 24 (bl 5 (y_if yc0 24 8)) (bl 24 (x_const 2147483648 25))))
set_option maxRecDepth 100000 in
set_option maxHeartbeats 4000000 in
theorem T_73_ok (G : State → Nat → Nat → Prop) : xTree PX G prog_1_method_17_code "CapitalCase" false T_73 := (xT_n (xT_n (xT_l (yS (y_aload_eq _ _) (s_aload_n d73_0))) (xT_l (yS (y_iload_eq _ _) (s_iload_n d73_1)))) (xT_n (xT_l (yS (y_invV_eq _ _ _ _) (s_invV (T := TX11) d73_2 cal_64 rfl wd_894 wd_896 wd_23))) (xT_n (xT_l (yS (y_if_eq yc0_eq _ _) (s_ifeq d73_5 (by decide +kernel)))) (xT_l (s_iconst d73_24 (by decide +kernel))))))
set_option maxRecDepth 100000 in
set_option maxHeartbeats 4000000 in
theorem M_73 : xMeth PX 73 (T_73, 2, [(25, 2)]) := ⟨⟨"CapitalCase", "set", "(I)Z"⟩, prog_1_method_17_code, (some .boolean), rfl, by decide, fun G => T_73_ok G, xrt_ok (xR_c (Or.inr (Or.inl ⟨rfl, d73_25, rfl⟩)) (xR_n))⟩
theorem d74_0 : decode prog_1_method_47_code 0 = .ok (.iconst 0, 1) := by decide +kernel
theorem d74_1 : decode prog_1_method_47_code 1 = .ok (.istore_n 1, 1) := by decide +kernel
theorem d74_2 : decode prog_1_method_47_code 2 = .ok (.iconst 0, 1) := by decide +kernel
theorem d74_3 : decode prog_1_method_47_code 3 = .ok (.istore_n 2, 1) := by decide +kernel
theorem d74_4 : decode prog_1_method_47_code 4 = .ok (.iload_n 2, 1) := by decide +kernel
theorem d74_5 : decode prog_1_method_47_code 5 = .ok (.aload_n 0, 1) := by decide +kernel
theorem d74_6 : decode prog_1_method_47_code 6 = .ok (.getfield 23, 3) := by decide +kernel
theorem d74_9 : decode prog_1_method_47_code 9 = .ok (.getfield 141, 3) := by decide +kernel
theorem d74_12 : decode prog_1_method_47_code 12 = .ok (.if_icmp .ge 31, 3) := by decide +kernel
theorem d74_43 : decode prog_1_method_47_code 43 = .ok (.iload_n 1, 1) := by decide +kernel
theorem d74_44 : decode prog_1_method_47_code 44 = .ok (.ireturn, 1) := by decide +kernel
noncomputable def T_74 : Nat → Option xF := bn 5 (bn 2 (bn 1 (bl 0 (x_const 2147483648 1)) (bl 1 (y_istore 1 2))) (bn 3 (bl 2 (x_const 2147483648 3)) (bn 4 (bl 3 (y_istore 2 4)) (bl 4 (y_iload 2 5))))) (bn 9 (bn 6 (bl 5 (y_aload 0 6)) (bl 6 (y_getf 11 0 9))) (bn 12 (bl 9 (y_getf 6 1 12)) (bn 43 (bl 12 (y_icmp yc3 43 15)) (bl 43 (y_iload 1 44)))))
set_option maxRecDepth 100000 in
set_option maxHeartbeats 4000000 in
theorem T_74_ok (G : State → Nat → Nat → Prop) : xTree PX G prog_1_method_47_code "CapitalCase" false T_74 := (xT_n (xT_n (xT_n (xT_l (s_iconst d74_0 (by decide +kernel))) (xT_l (yS (y_istore_eq _ _) (s_istore_n d74_1)))) (xT_n (xT_l (s_iconst d74_2 (by decide +kernel))) (xT_n (xT_l (yS (y_istore_eq _ _) (s_istore_n d74_3))) (xT_l (yS (y_iload_eq _ _) (s_iload_n d74_4)))))) (xT_n (xT_n (xT_l (yS (y_aload_eq _ _) (s_aload_n d74_5))) (xT_l (yS (y_getf_eq _ _ _) (s_getf (T := TX11) (N := 16) d74_6 rfl inX11 (by decide) wd_556)))) (xT_n (xT_l (yS (y_getf_eq _ _ _) (s_getf (T := TX6) (N := 15) d74_9 rfl inX6 (by decide) wd_174))) (xT_n (xT_l (yS (y_icmp_eq yc3_eq _ _) (s_icmpge d74_12 (by decide +kernel)))) (xT_l (yS (y_iload_eq _ _) (s_iload_n d74_43)))))))
set_option maxRecDepth 100000 in
set_option maxHeartbeats 4000000 in
theorem M_74 : xMeth PX 74 (T_74, 3, [(44, 1)]) := ⟨⟨"CapitalCase", "settable", "()I"⟩, prog_1_method_47_code, (some .int), rfl, by decide, fun G => T_74_ok G, xrt_ok (xR_c (Or.inl ⟨rfl, d74_44, rfl⟩) (xR_n))⟩
theorem d75_0 : decode prog_1_method_31_code 0 = .ok (.iload_n 1, 1) := by decide +kernel
theorem d75_1 : decode prog_1_method_31_code 1 = .ok (.ifCond .lt 10, 3) := by decide +kernel
theorem d75_4 : decode prog_1_method_31_code 4 = .ok (.iload_n 1, 1) := by decide +kernel
theorem d75_5 : decode prog_1_method_31_code 5 = .ok (.sipush 255, 3) := by decide +kernel
theorem d75_8 : decode prog_1_method_31_code 8 = .ok (.if_icmp .le 5, 3) := by decide +kernel
theorem d75_11 : decode prog_1_method_31_code 11 = .ok (.iconst (-1), 1) := by decide +kernel
theorem d75_12 : decode prog_1_method_31_code 12 = .ok (.ireturn, 1) := by decide +kernel
theorem d75_13 : decode prog_1_method_31_code 13 = .ok (.aload_n 0, 1) := by decide +kernel
theorem d75_14 : decode prog_1_method_31_code 14 = .ok (.getfield 39, 3) := by decide +kernel
theorem d75_17 : decode prog_1_method_31_code 17 = .ok (.aload_n 0, 1) := by decide +kernel
theorem d75_18 : decode prog_1_method_31_code 18 = .ok (.getfield 23, 3) := by decide +kernel
theorem d75_21 : decode prog_1_method_31_code 21 = .ok (.getfield 141, 3) := by decide +kernel
theorem d75_24 : decode prog_1_method_31_code 24 = .ok (.invokevirtual 144, 3) := by decide +kernel
theorem d75_27 : decode prog_1_method_31_code 27 = .ok (.istore_n 2, 1) := by decide +kernel
theorem d75_28 : decode prog_1_method_31_code 28 = .ok (.iconst 0, 1) := by decide +kernel
theorem d75_29 : decode prog_1_method_31_code 29 = .ok (.istore_n 3, 1) := by decide +kernel
theorem d75_30 : decode prog_1_method_31_code 30 = .ok (.iload_n 3, 1) := by decide +kernel
theorem d75_31 : decode prog_1_method_31_code 31 = .ok (.aload_n 0, 1) := by decide +kernel
theorem d75_32 : decode prog_1_method_31_code 32 = .ok (.getfield 23, 3) := by decide +kernel
theorem d75_35 : decode prog_1_method_31_code 35 = .ok (.getfield 141, 3) := by decide +kernel
theorem d75_38 : decode prog_1_method_31_code 38 = .ok (.if_icmp .ge 30, 3) := by decide +kernel
theorem d75_68 : decode prog_1_method_31_code 68 = .ok (.iload_n 2, 1) := by decide +kernel
theorem d75_69 : decode prog_1_method_31_code 69 = .ok (.ireturn, 1) := by decide +kernel
noncomputable def T_75 : Nat → Option xF := bn 21 (bn 11 (bn 4 (bn 1 (bl 0 (y_iload 1 1)) (bl 1 (y_if yc2 11 4))) (bn 5 (bl 4 (y_iload 1 5)) (bn 8 (bl 5 (x_const 2147483903 8)) (bl 8 (y_icmp yc5 13 11))))) (bn 14 (bn 13 (bl 11 (x_const 2147483647 12)) (bl 13 (y_aload 0 14))) (bn 17 (bl 14 (y_getf 11 1 17)) (bn 18 (bl 17 (y_aload 0 18)) (bl 18 (y_getf 11 0 21)))))) (bn 30 (bn 27 (bn 24 (bl 21 (y_getf 6 1 24)) (bl 24 (y_invV 8 35 2 27))) (bn 28 (bl 27 (y_istore 2 28)) (bn 29 (bl 28 (x_const 2147483648 29)) (bl 29 (y_istore 3 30))))) (bn 35 (bn 31 (bl 30 (y_iload 3 31)) (bn 32 (bl 31 (y_aload 0 32)) (bl 32 (y_getf 11 0 35)))) (bn 38 (bl 35 (y_getf 6 1 38)) (bn 68 (bl 38 (y_icmp yc3 68 41)) (bl 68 (y_iload 2 69))))))
set_option maxRecDepth 100000 in
set_option maxHeartbeats 4000000 in
theorem T_75_ok (G : State → Nat → Nat → Prop) : xTree PX G prog_1_method_31_code "CapitalCase" false T_75 := (xT_n (xT_n (xT_n (xT_n (xT_l (yS (y_iload_eq _ _) (s_iload_n d75_0))) (xT_l (yS (y_if_eq yc2_eq _ _) (s_iflt d75_1 (by decide +kernel))))) (xT_n (xT_l (yS (y_iload_eq _ _) (s_iload_n d75_4))) (xT_n (xT_l (s_sipush d75_5 (by decide +kernel))) (xT_l (yS (y_icmp_eq yc5_eq _ _) (s_icmple d75_8 (by decide +kernel))))))) (xT_n (xT_n (xT_l (s_iconst d75_11 (by decide +kernel))) (xT_l (yS (y_aload_eq _ _) (s_aload_n d75_13)))) (xT_n (xT_l (yS (y_getf_eq _ _ _) (s_getf (T := TX11) (N := 16) d75_14 rfl inX11 (by decide) wd_558))) (xT_n (xT_l (yS (y_aload_eq _ _) (s_aload_n d75_17))) (xT_l (yS (y_getf_eq _ _ _) (s_getf (T := TX11) (N := 16) d75_18 rfl inX11 (by decide) wd_556))))))) (xT_n (xT_n (xT_n (xT_l (yS (y_getf_eq _ _ _) (s_getf (T := TX6) (N := 15) d75_21 rfl inX6 (by decide) wd_174))) (xT_l (yS (y_invV_eq _ _ _ _) (s_invV (T := TX8) d75_24 cal_35 rfl wd_935 wd_936 wd_937)))) (xT_n (xT_l (yS (y_istore_eq _ _) (s_istore_n d75_27))) (xT_n (xT_l (s_iconst d75_28 (by decide +kernel))) (xT_l (yS (y_istore_eq _ _) (s_istore_n d75_29)))))) (xT_n (xT_n (xT_l (yS (y_iload_eq _ _) (s_iload_n d75_30))) (xT_n (xT_l (yS (y_aload_eq _ _) (s_aload_n d75_31))) (xT_l (yS (y_getf_eq _ _ _) (s_getf (T := TX11) (N := 16) d75_32 rfl inX11 (by decide) wd_556))))) (xT_n (xT_l (yS (y_getf_eq _ _ _) (s_getf (T := TX6) (N := 15) d75_35 rfl inX6 (by decide) wd_174))) (xT_n (xT_l (yS (y_icmp_eq yc3_eq _ _) (s_icmpge d75_38 (by decide +kernel)))) (xT_l (yS (y_iload_eq _ _) (s_iload_n d75_68))))))))
set_option maxRecDepth 100000 in
set_option maxHeartbeats 4000000 in
theorem M_75 : xMeth PX 75 (T_75, 4, [(12, 1), (69, 1)]) := ⟨⟨"CapitalCase", "strike", "(I)I"⟩, prog_1_method_31_code, (some .int), rfl, by decide, fun G => T_75_ok G, xrt_ok (xR_c (Or.inl ⟨rfl, d75_12, rfl⟩) (xR_c (Or.inl ⟨rfl, d75_69, rfl⟩) (xR_n)))⟩
theorem d76_0 : decode prog_1_method_45_code 0 = .ok (.iconst 0, 1) := by decide +kernel
theorem d76_1 : decode prog_1_method_45_code 1 = .ok (.istore_n 1, 1) := by decide +kernel
theorem d76_2 : decode prog_1_method_45_code 2 = .ok (.aload_n 0, 1) := by decide +kernel
theorem d76_3 : decode prog_1_method_45_code 3 = .ok (.astore_n 2, 1) := by decide +kernel
theorem d76_4 : decode prog_1_method_45_code 4 = .ok (.aload_n 2, 1) := by decide +kernel
theorem d76_5 : decode prog_1_method_45_code 5 = .ok (.arraylength, 1) := by decide +kernel
theorem d76_6 : decode prog_1_method_45_code 6 = .ok (.istore_n 3, 1) := by decide +kernel
theorem d76_7 : decode prog_1_method_45_code 7 = .ok (.iconst 0, 1) := by decide +kernel
theorem d76_8 : decode prog_1_method_45_code 8 = .ok (.istore 4, 2) := by decide +kernel
theorem d76_10 : decode prog_1_method_45_code 10 = .ok (.iload 4, 2) := by decide +kernel
theorem d76_12 : decode prog_1_method_45_code 12 = .ok (.iload_n 3, 1) := by decide +kernel
theorem d76_13 : decode prog_1_method_45_code 13 = .ok (.if_icmp .ge 20, 3) := by decide +kernel
theorem d76_16 : decode prog_1_method_45_code 16 = .ok (.aload_n 2, 1) := by decide +kernel
theorem d76_17 : decode prog_1_method_45_code 17 = .ok (.iload 4, 2) := by decide +kernel
theorem d76_19 : decode prog_1_method_45_code 19 = .ok (.iaload, 1) := by decide +kernel
theorem d76_20 : decode prog_1_method_45_code 20 = .ok (.istore 5, 2) := by decide +kernel
theorem d76_22 : decode prog_1_method_45_code 22 = .ok (.iload_n 1, 1) := by decide +kernel
theorem d76_23 : decode prog_1_method_45_code 23 = .ok (.iload 5, 2) := by decide +kernel
theorem d76_25 : decode prog_1_method_45_code 25 = .ok (.iadd, 1) := by decide +kernel
theorem d76_26 : decode prog_1_method_45_code 26 = .ok (.istore_n 1, 1) := by decide +kernel
theorem d76_27 : decode prog_1_method_45_code 27 = .ok (.iinc 4 1, 3) := by decide +kernel
theorem d76_30 : decode prog_1_method_45_code 30 = .ok (.goto (-20), 3) := by decide +kernel
theorem d76_33 : decode prog_1_method_45_code 33 = .ok (.iload_n 1, 1) := by decide +kernel
theorem d76_34 : decode prog_1_method_45_code 34 = .ok (.ireturn, 1) := by decide +kernel
noncomputable def T_76 : Nat → Option xF := bn 13 (bn 5 (bn 2 (bn 1 (bl 0 (x_const 2147483648 1)) (bl 1 (y_istore 1 2))) (bn 3 (bl 2 (y_aload 0 3)) (bn 4 (bl 3 (x_astore 2 4)) (bl 4 (y_aload 2 5))))) (bn 8 (bn 6 (bl 5 (x_alen 6)) (bn 7 (bl 6 (y_istore 3 7)) (bl 7 (x_const 2147483648 8)))) (bn 10 (bl 8 (y_istore 4 10)) (bn 12 (bl 10 (y_iload 4 12)) (bl 12 (y_iload 3 13)))))) (bn 23 (bn 19 (bn 16 (bl 13 (y_icmp yc3 33 16)) (bn 17 (bl 16 (y_aload 2 17)) (bl 17 (y_iload 4 19)))) (bn 20 (bl 19 (y_iald 20)) (bn 22 (bl 20 (y_istore 5 22)) (bl 22 (y_iload 1 23))))) (bn 27 (bn 25 (bl 23 (y_iload 5 25)) (bn 26 (bl 25 (y_bin yadd 26)) (bl 26 (y_istore 1 27)))) (bn 30 (bl 27 (y_iinc 4 2147483649 30)) (bn 33 (bl 30 (x_goto 10)) (bl 33 (y_iload 1 34))))))
set_option maxRecDepth 100000 in
set_option maxHeartbeats 4000000 in
theorem T_76_ok (G : State → Nat → Nat → Prop) : xTree PX G prog_1_method_45_code "CapitalCase" false T_76 := (xT_n (xT_n (xT_n (xT_n (xT_l (s_iconst d76_0 (by decide +kernel))) (xT_l (yS (y_istore_eq _ _) (s_istore_n d76_1)))) (xT_n (xT_l (yS (y_aload_eq _ _) (s_aload_n d76_2))) (xT_n (xT_l (s_astore_n d76_3)) (xT_l (yS (y_aload_eq _ _) (s_aload_n d76_4)))))) (xT_n (xT_n (xT_l (s_alen d76_5)) (xT_n (xT_l (yS (y_istore_eq _ _) (s_istore_n d76_6))) (xT_l (s_iconst d76_7 (by decide +kernel))))) (xT_n (xT_l (yS (y_istore_eq _ _) (s_istore d76_8))) (xT_n (xT_l (yS (y_iload_eq _ _) (s_iload d76_10))) (xT_l (yS (y_iload_eq _ _) (s_iload_n d76_12))))))) (xT_n (xT_n (xT_n (xT_l (yS (y_icmp_eq yc3_eq _ _) (s_icmpge d76_13 (by decide +kernel)))) (xT_n (xT_l (yS (y_aload_eq _ _) (s_aload_n d76_16))) (xT_l (yS (y_iload_eq _ _) (s_iload d76_17))))) (xT_n (xT_l (yS (y_iald_eq _) (s_iald d76_19))) (xT_n (xT_l (yS (y_istore_eq _ _) (s_istore d76_20))) (xT_l (yS (y_iload_eq _ _) (s_iload_n d76_22)))))) (xT_n (xT_n (xT_l (yS (y_iload_eq _ _) (s_iload d76_23))) (xT_n (xT_l (yS (y_bin_eq _ _) (s_iadd d76_25))) (xT_l (yS (y_istore_eq _ _) (s_istore_n d76_26))))) (xT_n (xT_l (yS (y_iinc_eq _ _ _) (s_iinc d76_27 (by decide +kernel)))) (xT_n (xT_l (s_goto d76_30 (by decide +kernel))) (xT_l (yS (y_iload_eq _ _) (s_iload_n d76_33))))))))
set_option maxRecDepth 100000 in
set_option maxHeartbeats 4000000 in
theorem M_76 : xMeth PX 76 (T_76, 6, [(34, 1)]) := ⟨⟨"CapitalCase", "sum", "([I)I"⟩, prog_1_method_45_code, (some .int), rfl, by decide, fun G => T_76_ok G, xrt_ok (xR_c (Or.inl ⟨rfl, d76_34, rfl⟩) (xR_n))⟩
theorem d77_0 : decode prog_1_method_38_code 0 = .ok (.iload_n 1, 1) := by decide +kernel
theorem d77_1 : decode prog_1_method_38_code 1 = .ok (.ifCond .lt 20, 3) := by decide +kernel
theorem d77_4 : decode prog_1_method_38_code 4 = .ok (.iload_n 1, 1) := by decide +kernel
theorem d77_5 : decode prog_1_method_38_code 5 = .ok (.bipush 8, 2) := by decide +kernel
theorem d77_7 : decode prog_1_method_38_code 7 = .ok (.if_icmp .ge 14, 3) := by decide +kernel
theorem d77_10 : decode prog_1_method_38_code 10 = .ok (.iload_n 2, 1) := by decide +kernel
theorem d77_11 : decode prog_1_method_38_code 11 = .ok (.ifCond .lt 10, 3) := by decide +kernel
theorem d77_14 : decode prog_1_method_38_code 14 = .ok (.iload_n 2, 1) := by decide +kernel
theorem d77_15 : decode prog_1_method_38_code 15 = .ok (.sipush 999, 3) := by decide +kernel
theorem d77_18 : decode prog_1_method_38_code 18 = .ok (.if_icmp .le 5, 3) := by decide +kernel
theorem d77_21 : decode prog_1_method_38_code 21 = .ok (.iconst (-1), 1) := by decide +kernel
theorem d77_22 : decode prog_1_method_38_code 22 = .ok (.ireturn, 1) := by decide +kernel
theorem d77_23 : decode prog_1_method_38_code 23 = .ok (.aload_n 0, 1) := by decide +kernel
theorem d77_24 : decode prog_1_method_38_code 24 = .ok (.getfield 64, 3) := by decide +kernel
theorem d77_27 : decode prog_1_method_38_code 27 = .ok (.iload_n 1, 1) := by decide +kernel
theorem d77_28 : decode prog_1_method_38_code 28 = .ok (.iload_n 2, 1) := by decide +kernel
theorem d77_29 : decode prog_1_method_38_code 29 = .ok (.iload_n 3, 1) := by decide +kernel
theorem d77_30 : decode prog_1_method_38_code 30 = .ok (.invokevirtual 307, 3) := by decide +kernel
theorem d77_33 : decode prog_1_method_38_code 33 = .ok (.ireturn, 1) := by decide +kernel
noncomputable def T_77 : Nat → Option xF := bn 15 (bn 7 (bn 4 (bn 1 (bl 0 (y_iload 1 1)) (bl 1 (y_if yc2 21 4))) (bn 5 (bl 4 (y_iload 1 5)) (bl 5 (x_const 2147483656 7)))) (bn 11 (bn 10 (bl 7 (y_icmp yc3 21 10)) (bl 10 (y_iload 2 11))) (bn 14 (bl 11 (y_if yc2 21 14)) (bl 14 (y_iload 2 15))))) (bn 24 (bn 21 (bn 18 (bl 15 (x_const 2147484647 18)) (bl 18 (y_icmp yc5 23 21))) (bn 23 (bl 21 (x_const 2147483647 22)) (bl 23 (y_aload 0 24)))) (bn 28 (bn 27 (bl 24 (y_getf 11 13 27)) (bl 27 (y_iload 1 28))) (bn 29 (bl 28 (y_iload 2 29)) (bn 30 (bl 29 (y_iload 3 30)) (bl 30 (y_invV 5 23 4 33))))))
set_option maxRecDepth 100000 in
set_option maxHeartbeats 4000000 in
theorem T_77_ok (G : State → Nat → Nat → Prop) : xTree PX G prog_1_method_38_code "CapitalCase" false T_77 := (xT_n (xT_n (xT_n (xT_n (xT_l (yS (y_iload_eq _ _) (s_iload_n d77_0))) (xT_l (yS (y_if_eq yc2_eq _ _) (s_iflt d77_1 (by decide +kernel))))) (xT_n (xT_l (yS (y_iload_eq _ _) (s_iload_n d77_4))) (xT_l (s_bipush d77_5 (by decide +kernel))))) (xT_n (xT_n (xT_l (yS (y_icmp_eq yc3_eq _ _) (s_icmpge d77_7 (by decide +kernel)))) (xT_l (yS (y_iload_eq _ _) (s_iload_n d77_10)))) (xT_n (xT_l (yS (y_if_eq yc2_eq _ _) (s_iflt d77_11 (by decide +kernel)))) (xT_l (yS (y_iload_eq _ _) (s_iload_n d77_14)))))) (xT_n (xT_n (xT_n (xT_l (s_sipush d77_15 (by decide +kernel))) (xT_l (yS (y_icmp_eq yc5_eq _ _) (s_icmple d77_18 (by decide +kernel))))) (xT_n (xT_l (s_iconst d77_21 (by decide +kernel))) (xT_l (yS (y_aload_eq _ _) (s_aload_n d77_23))))) (xT_n (xT_n (xT_l (yS (y_getf_eq _ _ _) (s_getf (T := TX11) (N := 16) d77_24 rfl inX11 (by decide) wd_563))) (xT_l (yS (y_iload_eq _ _) (s_iload_n d77_27)))) (xT_n (xT_l (yS (y_iload_eq _ _) (s_iload_n d77_28))) (xT_n (xT_l (yS (y_iload_eq _ _) (s_iload_n d77_29))) (xT_l (yS (y_invV_eq _ _ _ _) (s_invV (T := TX5) d77_30 cal_23 rfl wd_1201 wd_1202 wd_1203))))))))
set_option maxRecDepth 100000 in
set_option maxHeartbeats 4000000 in
theorem M_77 : xMeth PX 77 (T_77, 4, [(22, 1), (33, 1)]) := ⟨⟨"CapitalCase", "tell", "(IIZ)I"⟩, prog_1_method_38_code, (some .int), rfl, by decide, fun G => T_77_ok G, xrt_ok (xR_c (Or.inl ⟨rfl, d77_22, rfl⟩) (xR_c (Or.inl ⟨rfl, d77_33, rfl⟩) (xR_n)))⟩
theorem d78_0 : decode prog_1_method_16_code 0 = .ok (.aload_n 0, 1) := by decide +kernel
theorem d78_1 : decode prog_1_method_16_code 1 = .ok (.iload_n 1, 1) := by decide +kernel
theorem d78_2 : decode prog_1_method_16_code 2 = .ok (.iload_n 2, 1) := by decide +kernel
theorem d78_3 : decode prog_1_method_16_code 3 = .ok (.invokevirtual 147, 3) := by decide +kernel
theorem d78_6 : decode prog_1_method_16_code 6 = .ok (.ifCond .eq 11, 3) := by decide +kernel
theorem d78_17 : decode prog_1_method_16_code 17 = .ok (.ldc 205, 2) := by decide +kernel
theorem d78_19 : decode prog_1_method_16_code 19 = .ok (.ireturn, 1) := by decide +kernel
noncomputable def T_78 : Nat → Option xF := bn 3 (bn 1 (bl 0 (y_aload 0 1)) (bn 2 (bl 1 (y_iload 1 2)) (bl 2 (y_iload 2 3)))) (bn 6 (bl 3 (y_invV 11 62 3 6)) (bn 17 (bl 6 (y_if yc0 17 9)) (bl 17 (x_const 1147483648 19))))
set_option maxRecDepth 100000 in
set_option maxHeartbeats 4000000 in
theorem T_78_ok (G : State → Nat → Nat → Prop) : xTree PX G prog_1_method_16_code "CapitalCase" false T_78 := (xT_n (xT_n (xT_l (yS (y_aload_eq _ _) (s_aload_n d78_0))) (xT_n (xT_l (yS (y_iload_eq _ _) (s_iload_n d78_1))) (xT_l (yS (y_iload_eq _ _) (s_iload_n d78_2))))) (xT_n (xT_l (yS (y_invV_eq _ _ _ _) (s_invV (T := TX11) d78_3 cal_62 rfl wd_850 wd_852 wd_19))) (xT_n (xT_l (yS (y_if_eq yc0_eq _ _) (s_ifeq d78_6 (by decide +kernel)))) (xT_l (s_ldc d78_17 wd_918 (by decide +kernel))))))
set_option maxRecDepth 100000 in
set_option maxHeartbeats 4000000 in
theorem M_78 : xMeth PX 78 (T_78, 5, [(19, 1)]) := ⟨⟨"CapitalCase", "tells", "(IIII)I"⟩, prog_1_method_16_code, (some .int), rfl, by decide, fun G => T_78_ok G, xrt_ok (xR_c (Or.inl ⟨rfl, d78_19, rfl⟩) (xR_n))⟩
theorem d79_0 : decode prog_1_method_35_code 0 = .ok (.aload_n 0, 1) := by decide +kernel
theorem d79_1 : decode prog_1_method_35_code 1 = .ok (.iload_n 1, 1) := by decide +kernel
theorem d79_2 : decode prog_1_method_35_code 2 = .ok (.iload_n 2, 1) := by decide +kernel
theorem d79_3 : decode prog_1_method_35_code 3 = .ok (.invokevirtual 147, 3) := by decide +kernel
theorem d79_6 : decode prog_1_method_35_code 6 = .ok (.ifCond .eq 24, 3) := by decide +kernel
theorem d79_30 : decode prog_1_method_35_code 30 = .ok (.iconst (-1), 1) := by decide +kernel
theorem d79_31 : decode prog_1_method_35_code 31 = .ok (.ireturn, 1) := by decide +kernel
noncomputable def T_79 : Nat → Option xF := bn 3 (bn 1 (bl 0 (y_aload 0 1)) (bn 2 (bl 1 (y_iload 1 2)) (bl 2 (y_iload 2 3)))) (bn 6 (bl 3 (y_invV 11 62 3 6)) (bn 30 (bl 6 (y_if yc0 30 9)) (bl 30 (x_const 2147483647 31))))
set_option maxRecDepth 100000 in
set_option maxHeartbeats 4000000 in
theorem T_79_ok (G : State → Nat → Nat → Prop) : xTree PX G prog_1_method_35_code "CapitalCase" false T_79 := (xT_n (xT_n (xT_l (yS (y_aload_eq _ _) (s_aload_n d79_0))) (xT_n (xT_l (yS (y_iload_eq _ _) (s_iload_n d79_1))) (xT_l (yS (y_iload_eq _ _) (s_iload_n d79_2))))) (xT_n (xT_l (yS (y_invV_eq _ _ _ _) (s_invV (T := TX11) d79_3 cal_62 rfl wd_850 wd_852 wd_19))) (xT_n (xT_l (yS (y_if_eq yc0_eq _ _) (s_ifeq d79_6 (by decide +kernel)))) (xT_l (s_iconst d79_30 (by decide +kernel))))))
set_option maxRecDepth 100000 in
set_option maxHeartbeats 4000000 in
theorem M_79 : xMeth PX 79 (T_79, 6, [(31, 1)]) := ⟨⟨"CapitalCase", "then", "(IIII)I"⟩, prog_1_method_35_code, (some .int), rfl, by decide, fun G => T_79_ok G, xrt_ok (xR_c (Or.inl ⟨rfl, d79_31, rfl⟩) (xR_n))⟩
theorem d80_0 : decode prog_1_method_28_code 0 = .ok (.iload_n 1, 1) := by decide +kernel
theorem d80_1 : decode prog_1_method_28_code 1 = .ok (.ifCond .lt 8, 3) := by decide +kernel
theorem d80_4 : decode prog_1_method_28_code 4 = .ok (.iload_n 1, 1) := by decide +kernel
theorem d80_5 : decode prog_1_method_28_code 5 = .ok (.iconst 1, 1) := by decide +kernel
theorem d80_6 : decode prog_1_method_28_code 6 = .ok (.if_icmp .le 5, 3) := by decide +kernel
theorem d80_9 : decode prog_1_method_28_code 9 = .ok (.iconst (-1), 1) := by decide +kernel
theorem d80_10 : decode prog_1_method_28_code 10 = .ok (.ireturn, 1) := by decide +kernel
theorem d80_11 : decode prog_1_method_28_code 11 = .ok (.aload_n 0, 1) := by decide +kernel
theorem d80_12 : decode prog_1_method_28_code 12 = .ok (.getfield 98, 3) := by decide +kernel
theorem d80_15 : decode prog_1_method_28_code 15 = .ok (.aload_n 0, 1) := by decide +kernel
theorem d80_16 : decode prog_1_method_28_code 16 = .ok (.getfield 39, 3) := by decide +kernel
theorem d80_19 : decode prog_1_method_28_code 19 = .ok (.invokevirtual 280, 3) := by decide +kernel
theorem d80_22 : decode prog_1_method_28_code 22 = .ok (.iload_n 1, 1) := by decide +kernel
theorem d80_23 : decode prog_1_method_28_code 23 = .ok (.ifCond .ne 13, 3) := by decide +kernel
theorem d80_26 : decode prog_1_method_28_code 26 = .ok (.aload_n 0, 1) := by decide +kernel
theorem d80_27 : decode prog_1_method_28_code 27 = .ok (.getfield 98, 3) := by decide +kernel
theorem d80_30 : decode prog_1_method_28_code 30 = .ok (.getfield 281, 3) := by decide +kernel
theorem d80_33 : decode prog_1_method_28_code 33 = .ok (.goto 10, 3) := by decide +kernel
theorem d80_36 : decode prog_1_method_28_code 36 = .ok (.aload_n 0, 1) := by decide +kernel
theorem d80_37 : decode prog_1_method_28_code 37 = .ok (.getfield 98, 3) := by decide +kernel
theorem d80_40 : decode prog_1_method_28_code 40 = .ok (.getfield 282, 3) := by decide +kernel
theorem d80_43 : decode prog_1_method_28_code 43 = .ok (.ireturn, 1) := by decide +kernel
noncomputable def T_80 : Nat → Option xF := bn 19 (bn 9 (bn 4 (bn 1 (bl 0 (y_iload 1 1)) (bl 1 (y_if yc2 9 4))) (bn 5 (bl 4 (y_iload 1 5)) (bn 6 (bl 5 (x_const 2147483649 6)) (bl 6 (y_icmp yc5 11 9))))) (bn 12 (bn 11 (bl 9 (x_const 2147483647 10)) (bl 11 (y_aload 0 12))) (bn 15 (bl 12 (y_getf 11 14 15)) (bn 16 (bl 15 (y_aload 0 16)) (bl 16 (y_getf 11 1 19)))))) (bn 30 (bn 23 (bn 22 (bl 19 (y_invV 10 41 2 22)) (bl 22 (y_iload 1 23))) (bn 26 (bl 23 (y_if yc1 36 26)) (bn 27 (bl 26 (y_aload 0 27)) (bl 27 (y_getf 11 14 30))))) (bn 36 (bn 33 (bl 30 (y_getf 10 6 33)) (bl 33 (x_goto 43))) (bn 37 (bl 36 (y_aload 0 37)) (bn 40 (bl 37 (y_getf 11 14 40)) (bl 40 (y_getf 10 7 43))))))
set_option maxRecDepth 100000 in
set_option maxHeartbeats 4000000 in
theorem T_80_ok (G : State → Nat → Nat → Prop) : xTree PX G prog_1_method_28_code "CapitalCase" false T_80 := (xT_n (xT_n (xT_n (xT_n (xT_l (yS (y_iload_eq _ _) (s_iload_n d80_0))) (xT_l (yS (y_if_eq yc2_eq _ _) (s_iflt d80_1 (by decide +kernel))))) (xT_n (xT_l (yS (y_iload_eq _ _) (s_iload_n d80_4))) (xT_n (xT_l (s_iconst d80_5 (by decide +kernel))) (xT_l (yS (y_icmp_eq yc5_eq _ _) (s_icmple d80_6 (by decide +kernel))))))) (xT_n (xT_n (xT_l (s_iconst d80_9 (by decide +kernel))) (xT_l (yS (y_aload_eq _ _) (s_aload_n d80_11)))) (xT_n (xT_l (yS (y_getf_eq _ _ _) (s_getf (T := TX11) (N := 16) d80_12 rfl inX11 (by decide) wd_567))) (xT_n (xT_l (yS (y_aload_eq _ _) (s_aload_n d80_15))) (xT_l (yS (y_getf_eq _ _ _) (s_getf (T := TX11) (N := 16) d80_16 rfl inX11 (by decide) wd_558))))))) (xT_n (xT_n (xT_n (xT_l (yS (y_invV_eq _ _ _ _) (s_invV (T := TX10) d80_19 cal_41 rfl wd_1095 wd_1096 wd_1097))) (xT_l (yS (y_iload_eq _ _) (s_iload_n d80_22)))) (xT_n (xT_l (yS (y_if_eq yc1_eq _ _) (s_ifne d80_23 (by decide +kernel)))) (xT_n (xT_l (yS (y_aload_eq _ _) (s_aload_n d80_26))) (xT_l (yS (y_getf_eq _ _ _) (s_getf (T := TX11) (N := 16) d80_27 rfl inX11 (by decide) wd_567)))))) (xT_n (xT_n (xT_l (yS (y_getf_eq _ _ _) (s_getf (T := TX10) (N := 9) d80_30 rfl inX10 (by decide) wd_512))) (xT_l (s_goto d80_33 (by decide +kernel)))) (xT_n (xT_l (yS (y_aload_eq _ _) (s_aload_n d80_36))) (xT_n (xT_l (yS (y_getf_eq _ _ _) (s_getf (T := TX11) (N := 16) d80_37 rfl inX11 (by decide) wd_567))) (xT_l (yS (y_getf_eq _ _ _) (s_getf (T := TX10) (N := 9) d80_40 rfl inX10 (by decide) wd_514))))))))
set_option maxRecDepth 100000 in
set_option maxHeartbeats 4000000 in
theorem M_80 : xMeth PX 80 (T_80, 2, [(10, 1), (43, 1)]) := ⟨⟨"CapitalCase", "twoDays", "(I)I"⟩, prog_1_method_28_code, (some .int), rfl, by decide, fun G => T_80_ok G, xrt_ok (xR_c (Or.inl ⟨rfl, d80_10, rfl⟩) (xR_c (Or.inl ⟨rfl, d80_43, rfl⟩) (xR_n)))⟩
theorem d81_0 : decode prog_1_method_23_code 0 = .ok (.aload_n 0, 1) := by decide +kernel
theorem d81_1 : decode prog_1_method_23_code 1 = .ok (.getfield 49, 3) := by decide +kernel
theorem d81_4 : decode prog_1_method_23_code 4 = .ok (.aload_n 0, 1) := by decide +kernel
theorem d81_5 : decode prog_1_method_23_code 5 = .ok (.getfield 39, 3) := by decide +kernel
theorem d81_8 : decode prog_1_method_23_code 8 = .ok (.invokevirtual 256, 3) := by decide +kernel
theorem d81_11 : decode prog_1_method_23_code 11 = .ok (.ireturn, 1) := by decide +kernel
noncomputable def T_81 : Nat → Option xF := bn 4 (bn 1 (bl 0 (y_aload 0 1)) (bl 1 (y_getf 11 8 4))) (bn 5 (bl 4 (y_aload 0 5)) (bn 8 (bl 5 (y_getf 11 1 8)) (bl 8 (y_invV 0 2 2 11))))
set_option maxRecDepth 100000 in
set_option maxHeartbeats 4000000 in
theorem T_81_ok (G : State → Nat → Nat → Prop) : xTree PX G prog_1_method_23_code "CapitalCase" false T_81 := (xT_n (xT_n (xT_l (yS (y_aload_eq _ _) (s_aload_n d81_0))) (xT_l (yS (y_getf_eq _ _ _) (s_getf (T := TX11) (N := 16) d81_1 rfl inX11 (by decide) wd_560)))) (xT_n (xT_l (yS (y_aload_eq _ _) (s_aload_n d81_4))) (xT_n (xT_l (yS (y_getf_eq _ _ _) (s_getf (T := TX11) (N := 16) d81_5 rfl inX11 (by decide) wd_558))) (xT_l (yS (y_invV_eq _ _ _ _) (s_invV (T := TX0) d81_8 cal_2 rfl wd_1047 wd_1048 wd_1049))))))
set_option maxRecDepth 100000 in
set_option maxHeartbeats 4000000 in
theorem M_81 : xMeth PX 81 (T_81, 1, [(11, 2)]) := ⟨⟨"CapitalCase", "undo", "()Z"⟩, prog_1_method_23_code, (some .boolean), rfl, by decide, fun G => T_81_ok G, xrt_ok (xR_c (Or.inr (Or.inl ⟨rfl, d81_11, rfl⟩)) (xR_n))⟩
theorem d82_0 : decode prog_1_method_13_code 0 = .ok (.aload_n 0, 1) := by decide +kernel
theorem d82_1 : decode prog_1_method_13_code 1 = .ok (.iload_n 1, 1) := by decide +kernel
theorem d82_2 : decode prog_1_method_13_code 2 = .ok (.invokevirtual 175, 3) := by decide +kernel
theorem d82_5 : decode prog_1_method_13_code 5 = .ok (.ifCond .ne 5, 3) := by decide +kernel
theorem d82_8 : decode prog_1_method_13_code 8 = .ok (.iconst (-1), 1) := by decide +kernel
theorem d82_9 : decode prog_1_method_13_code 9 = .ok (.ireturn, 1) := by decide +kernel
noncomputable def T_82 : Nat → Option xF := bn 2 (bn 1 (bl 0 (y_aload 0 1)) (bl 1 (y_iload 1 2))) (bn 5 (bl 2 (y_invV 11 64 2 5)) (bn 8 (bl 5 (y_if yc1 10 8)) (bl 8 (x_const 2147483647 9))))
set_option maxRecDepth 100000 in
set_option maxHeartbeats 4000000 in
theorem T_82_ok (G : State → Nat → Nat → Prop) : xTree PX G prog_1_method_13_code "CapitalCase" false T_82 := (xT_n (xT_n (xT_l (yS (y_aload_eq _ _) (s_aload_n d82_0))) (xT_l (yS (y_iload_eq _ _) (s_iload_n d82_1)))) (xT_n (xT_l (yS (y_invV_eq _ _ _ _) (s_invV (T := TX11) d82_2 cal_64 rfl wd_894 wd_896 wd_23))) (xT_n (xT_l (yS (y_if_eq yc1_eq _ _) (s_ifne d82_5 (by decide +kernel)))) (xT_l (s_iconst d82_8 (by decide +kernel))))))
set_option maxRecDepth 100000 in
set_option maxHeartbeats 4000000 in
theorem M_82 : xMeth PX 82 (T_82, 3, [(9, 1)]) := ⟨⟨"CapitalCase", "verse", "(II)I"⟩, prog_1_method_13_code, (some .int), rfl, by decide, fun G => T_82_ok G, xrt_ok (xR_c (Or.inl ⟨rfl, d82_9, rfl⟩) (xR_n))⟩
theorem d83_0 : decode prog_1_method_15_code 0 = .ok (.aload_n 0, 1) := by decide +kernel
theorem d83_1 : decode prog_1_method_15_code 1 = .ok (.iload_n 1, 1) := by decide +kernel
theorem d83_2 : decode prog_1_method_15_code 2 = .ok (.invokevirtual 175, 3) := by decide +kernel
theorem d83_5 : decode prog_1_method_15_code 5 = .ok (.ifCond .eq 20, 3) := by decide +kernel
theorem d83_25 : decode prog_1_method_15_code 25 = .ok (.iconst (-1), 1) := by decide +kernel
theorem d83_26 : decode prog_1_method_15_code 26 = .ok (.ireturn, 1) := by decide +kernel
noncomputable def T_83 : Nat → Option xF := bn 2 (bn 1 (bl 0 (y_aload 0 1)) (bl 1 (y_iload 1 2))) (bn 5 (bl 2 (y_invV 11 64 2 5)) (bn 25 (bl 5 (y_if yc0 25 8)) (bl 25 (x_const 2147483647 26))))
set_option maxRecDepth 100000 in
set_option maxHeartbeats 4000000 in
theorem T_83_ok (G : State → Nat → Nat → Prop) : xTree PX G prog_1_method_15_code "CapitalCase" false T_83 := (xT_n (xT_n (xT_l (yS (y_aload_eq _ _) (s_aload_n d83_0))) (xT_l (yS (y_iload_eq _ _) (s_iload_n d83_1)))) (xT_n (xT_l (yS (y_invV_eq _ _ _ _) (s_invV (T := TX11) d83_2 cal_64 rfl wd_894 wd_896 wd_23))) (xT_n (xT_l (yS (y_if_eq yc0_eq _ _) (s_ifeq d83_5 (by decide +kernel)))) (xT_l (s_iconst d83_25 (by decide +kernel))))))
set_option maxRecDepth 100000 in
set_option maxHeartbeats 4000000 in
theorem M_83 : xMeth PX 83 (T_83, 3, [(26, 1)]) := ⟨⟨"CapitalCase", "wants", "(II)I"⟩, prog_1_method_15_code, (some .int), rfl, by decide, fun G => T_83_ok G, xrt_ok (xR_c (Or.inl ⟨rfl, d83_26, rfl⟩) (xR_n))⟩
theorem d84_0 : decode prog_1_method_40_code 0 = .ok (.iload_n 1, 1) := by decide +kernel
theorem d84_1 : decode prog_1_method_40_code 1 = .ok (.ifCond .lt 23, 3) := by decide +kernel
theorem d84_4 : decode prog_1_method_40_code 4 = .ok (.iload_n 1, 1) := by decide +kernel
theorem d84_5 : decode prog_1_method_40_code 5 = .ok (.aload_n 0, 1) := by decide +kernel
theorem d84_6 : decode prog_1_method_40_code 6 = .ok (.getfield 64, 3) := by decide +kernel
theorem d84_9 : decode prog_1_method_40_code 9 = .ok (.getfield 133, 3) := by decide +kernel
theorem d84_12 : decode prog_1_method_40_code 12 = .ok (.if_icmp .gt 12, 3) := by decide +kernel
theorem d84_15 : decode prog_1_method_40_code 15 = .ok (.iload_n 2, 1) := by decide +kernel
theorem d84_16 : decode prog_1_method_40_code 16 = .ok (.ifCond .lt 8, 3) := by decide +kernel
theorem d84_19 : decode prog_1_method_40_code 19 = .ok (.iload_n 2, 1) := by decide +kernel
theorem d84_20 : decode prog_1_method_40_code 20 = .ok (.iconst 1, 1) := by decide +kernel
theorem d84_21 : decode prog_1_method_40_code 21 = .ok (.if_icmp .le 5, 3) := by decide +kernel
theorem d84_24 : decode prog_1_method_40_code 24 = .ok (.iconst (-1), 1) := by decide +kernel
theorem d84_25 : decode prog_1_method_40_code 25 = .ok (.ireturn, 1) := by decide +kernel
theorem d84_26 : decode prog_1_method_40_code 26 = .ok (.aload_n 0, 1) := by decide +kernel
theorem d84_27 : decode prog_1_method_40_code 27 = .ok (.getfield 64, 3) := by decide +kernel
theorem d84_30 : decode prog_1_method_40_code 30 = .ok (.aload_n 0, 1) := by decide +kernel
theorem d84_31 : decode prog_1_method_40_code 31 = .ok (.getfield 39, 3) := by decide +kernel
theorem d84_34 : decode prog_1_method_40_code 34 = .ok (.aload_n 0, 1) := by decide +kernel
theorem d84_35 : decode prog_1_method_40_code 35 = .ok (.getfield 23, 3) := by decide +kernel
theorem d84_38 : decode prog_1_method_40_code 38 = .ok (.getfield 134, 3) := by decide +kernel
theorem d84_41 : decode prog_1_method_40_code 41 = .ok (.iload_n 1, 1) := by decide +kernel
theorem d84_42 : decode prog_1_method_40_code 42 = .ok (.invokevirtual 311, 3) := by decide +kernel
theorem d84_45 : decode prog_1_method_40_code 45 = .ok (.istore_n 3, 1) := by decide +kernel
theorem d84_46 : decode prog_1_method_40_code 46 = .ok (.iload_n 2, 1) := by decide +kernel
theorem d84_47 : decode prog_1_method_40_code 47 = .ok (.ifCond .ne 10, 3) := by decide +kernel
theorem d84_50 : decode prog_1_method_40_code 50 = .ok (.iload_n 3, 1) := by decide +kernel
theorem d84_51 : decode prog_1_method_40_code 51 = .ok (.invokestatic 314, 3) := by decide +kernel
theorem d84_54 : decode prog_1_method_40_code 54 = .ok (.goto 4, 3) := by decide +kernel
theorem d84_57 : decode prog_1_method_40_code 57 = .ok (.iload_n 3, 1) := by decide +kernel
theorem d84_58 : decode prog_1_method_40_code 58 = .ok (.ireturn, 1) := by decide +kernel
noncomputable def T_84 : Nat → Option xF := bn 27 (bn 15 (bn 5 (bn 1 (bl 0 (y_iload 1 1)) (bn 4 (bl 1 (y_if yc2 24 4)) (bl 4 (y_iload 1 5)))) (bn 9 (bn 6 (bl 5 (y_aload 0 6)) (bl 6 (y_getf 11 13 9))) (bn 12 (bl 9 (y_getf 5 3 12)) (bl 12 (y_icmp yc4 24 15))))) (bn 20 (bn 16 (bl 15 (y_iload 2 16)) (bn 19 (bl 16 (y_if yc2 24 19)) (bl 19 (y_iload 2 20)))) (bn 24 (bn 21 (bl 20 (x_const 2147483649 21)) (bl 21 (y_icmp yc5 26 24))) (bn 26 (bl 24 (x_const 2147483647 25)) (bl 26 (y_aload 0 27)))))) (bn 42 (bn 34 (bn 30 (bl 27 (y_getf 11 13 30)) (bn 31 (bl 30 (y_aload 0 31)) (bl 31 (y_getf 11 1 34)))) (bn 38 (bn 35 (bl 34 (y_aload 0 35)) (bl 35 (y_getf 11 0 38))) (bn 41 (bl 38 (y_getf 6 0 41)) (bl 41 (y_iload 1 42))))) (bn 50 (bn 46 (bn 45 (bl 42 (y_invV 5 21 4 45)) (bl 45 (y_istore 3 46))) (bn 47 (bl 46 (y_iload 2 47)) (bl 47 (y_if yc1 57 50)))) (bn 54 (bn 51 (bl 50 (y_iload 3 51)) (bl 51 (y_inv 155 1 54))) (bn 57 (bl 54 (x_goto 58)) (bl 57 (y_iload 3 58))))))
set_option maxRecDepth 100000 in
set_option maxHeartbeats 4000000 in
theorem T_84_ok (G : State → Nat → Nat → Prop) : xTree PX G prog_1_method_40_code "CapitalCase" false T_84 := (xT_n (xT_n (xT_n (xT_n (xT_l (yS (y_iload_eq _ _) (s_iload_n d84_0))) (xT_n (xT_l (yS (y_if_eq yc2_eq _ _) (s_iflt d84_1 (by decide +kernel)))) (xT_l (yS (y_iload_eq _ _) (s_iload_n d84_4))))) (xT_n (xT_n (xT_l (yS (y_aload_eq _ _) (s_aload_n d84_5))) (xT_l (yS (y_getf_eq _ _ _) (s_getf (T := TX11) (N := 16) d84_6 rfl inX11 (by decide) wd_563)))) (xT_n (xT_l (yS (y_getf_eq _ _ _) (s_getf (T := TX5) (N := 4) d84_9 rfl inX5 (by decide) wd_405))) (xT_l (yS (y_icmp_eq yc4_eq _ _) (s_icmpgt d84_12 (by decide +kernel))))))) (xT_n (xT_n (xT_l (yS (y_iload_eq _ _) (s_iload_n d84_15))) (xT_n (xT_l (yS (y_if_eq yc2_eq _ _) (s_iflt d84_16 (by decide +kernel)))) (xT_l (yS (y_iload_eq _ _) (s_iload_n d84_19))))) (xT_n (xT_n (xT_l (s_iconst d84_20 (by decide +kernel))) (xT_l (yS (y_icmp_eq yc5_eq _ _) (s_icmple d84_21 (by decide +kernel))))) (xT_n (xT_l (s_iconst d84_24 (by decide +kernel))) (xT_l (yS (y_aload_eq _ _) (s_aload_n d84_26))))))) (xT_n (xT_n (xT_n (xT_l (yS (y_getf_eq _ _ _) (s_getf (T := TX11) (N := 16) d84_27 rfl inX11 (by decide) wd_563))) (xT_n (xT_l (yS (y_aload_eq _ _) (s_aload_n d84_30))) (xT_l (yS (y_getf_eq _ _ _) (s_getf (T := TX11) (N := 16) d84_31 rfl inX11 (by decide) wd_558))))) (xT_n (xT_n (xT_l (yS (y_aload_eq _ _) (s_aload_n d84_34))) (xT_l (yS (y_getf_eq _ _ _) (s_getf (T := TX11) (N := 16) d84_35 rfl inX11 (by decide) wd_556)))) (xT_n (xT_l (yS (y_getf_eq _ _ _) (s_getf (T := TX6) (N := 15) d84_38 rfl inX6 (by decide) wd_167))) (xT_l (yS (y_iload_eq _ _) (s_iload_n d84_41)))))) (xT_n (xT_n (xT_n (xT_l (yS (y_invV_eq _ _ _ _) (s_invV (T := TX5) d84_42 cal_21 rfl wd_1213 wd_1214 wd_1215))) (xT_l (yS (y_istore_eq _ _) (s_istore_n d84_45)))) (xT_n (xT_l (yS (y_iload_eq _ _) (s_iload_n d84_46))) (xT_l (yS (y_if_eq yc1_eq _ _) (s_ifne d84_47 (by decide +kernel)))))) (xT_n (xT_n (xT_l (yS (y_iload_eq _ _) (s_iload_n d84_50))) (xT_l (yS (y_inv_eq _ _ _) (s_invS d84_51 cal_155 wd_1217 wd_1218)))) (xT_n (xT_l (s_goto d84_54 (by decide +kernel))) (xT_l (yS (y_iload_eq _ _) (s_iload_n d84_57))))))))
set_option maxRecDepth 100000 in
set_option maxHeartbeats 4000000 in
theorem M_84 : xMeth PX 84 (T_84, 4, [(25, 1), (58, 1)]) := ⟨⟨"CapitalCase", "whose", "(II)I"⟩, prog_1_method_40_code, (some .int), rfl, by decide, fun G => T_84_ok G, xrt_ok (xR_c (Or.inl ⟨rfl, d84_25, rfl⟩) (xR_c (Or.inl ⟨rfl, d84_58, rfl⟩) (xR_n)))⟩
theorem d85_0 : decode prog_1_method_34_code 0 = .ok (.aload_n 0, 1) := by decide +kernel
theorem d85_1 : decode prog_1_method_34_code 1 = .ok (.iload_n 1, 1) := by decide +kernel
theorem d85_2 : decode prog_1_method_34_code 2 = .ok (.iload_n 2, 1) := by decide +kernel
theorem d85_3 : decode prog_1_method_34_code 3 = .ok (.invokevirtual 147, 3) := by decide +kernel
theorem d85_6 : decode prog_1_method_34_code 6 = .ok (.ifCond .ne 5, 3) := by decide +kernel
theorem d85_9 : decode prog_1_method_34_code 9 = .ok (.iconst (-1), 1) := by decide +kernel
theorem d85_10 : decode prog_1_method_34_code 10 = .ok (.ireturn, 1) := by decide +kernel
noncomputable def T_85 : Nat → Option xF := bn 3 (bn 1 (bl 0 (y_aload 0 1)) (bn 2 (bl 1 (y_iload 1 2)) (bl 2 (y_iload 2 3)))) (bn 6 (bl 3 (y_invV 11 62 3 6)) (bn 9 (bl 6 (y_if yc1 11 9)) (bl 9 (x_const 2147483647 10))))
set_option maxRecDepth 100000 in
set_option maxHeartbeats 4000000 in
theorem T_85_ok (G : State → Nat → Nat → Prop) : xTree PX G prog_1_method_34_code "CapitalCase" false T_85 := (xT_n (xT_n (xT_l (yS (y_aload_eq _ _) (s_aload_n d85_0))) (xT_n (xT_l (yS (y_iload_eq _ _) (s_iload_n d85_1))) (xT_l (yS (y_iload_eq _ _) (s_iload_n d85_2))))) (xT_n (xT_l (yS (y_invV_eq _ _ _ _) (s_invV (T := TX11) d85_3 cal_62 rfl wd_850 wd_852 wd_19))) (xT_n (xT_l (yS (y_if_eq yc1_eq _ _) (s_ifne d85_6 (by decide +kernel)))) (xT_l (s_iconst d85_9 (by decide +kernel))))))
set_option maxRecDepth 100000 in
set_option maxHeartbeats 4000000 in
theorem M_85 : xMeth PX 85 (T_85, 3, [(10, 1)]) := ⟨⟨"CapitalCase", "wornOut", "(II)I"⟩, prog_1_method_34_code, (some .int), rfl, by decide, fun G => T_85_ok G, xrt_ok (xR_c (Or.inl ⟨rfl, d85_10, rfl⟩) (xR_n))⟩
