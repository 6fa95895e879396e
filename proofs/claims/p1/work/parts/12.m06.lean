theorem d107_0 : decode prog_14_method_87_code 0 = .ok (.aload_n 0, 1) := by decide +kernel
theorem d107_1 : decode prog_14_method_87_code 1 = .ok (.invokevirtual 436, 3) := by decide +kernel
theorem d107_4 : decode prog_14_method_87_code 4 = .ok (.istore_n 1, 1) := by decide +kernel
theorem d107_5 : decode prog_14_method_87_code 5 = .ok (.aload_n 0, 1) := by decide +kernel
theorem d107_6 : decode prog_14_method_87_code 6 = .ok (.invokevirtual 439, 3) := by decide +kernel
theorem d107_9 : decode prog_14_method_87_code 9 = .ok (.iconst 0, 1) := by decide +kernel
theorem d107_10 : decode prog_14_method_87_code 10 = .ok (.istore_n 2, 1) := by decide +kernel
theorem d107_11 : decode prog_14_method_87_code 11 = .ok (.iload_n 2, 1) := by decide +kernel
theorem d107_12 : decode prog_14_method_87_code 12 = .ok (.aload_n 0, 1) := by decide +kernel
theorem d107_13 : decode prog_14_method_87_code 13 = .ok (.getfield 49, 3) := by decide +kernel
theorem d107_16 : decode prog_14_method_87_code 16 = .ok (.aload_n 0, 1) := by decide +kernel
theorem d107_17 : decode prog_14_method_87_code 17 = .ok (.getfield 230, 3) := by decide +kernel
theorem d107_20 : decode prog_14_method_87_code 20 = .ok (.iaload, 1) := by decide +kernel
theorem d107_21 : decode prog_14_method_87_code 21 = .ok (.if_icmp .ge 20, 3) := by decide +kernel
theorem d107_41 : decode prog_14_method_87_code 41 = .ok (.aload_n 0, 1) := by decide +kernel
theorem d107_42 : decode prog_14_method_87_code 42 = .ok (.iconst 0, 1) := by decide +kernel
theorem d107_43 : decode prog_14_method_87_code 43 = .ok (.putfield 442, 3) := by decide +kernel
theorem d107_46 : decode prog_14_method_87_code 46 = .ok (.aload_n 0, 1) := by decide +kernel
theorem d107_47 : decode prog_14_method_87_code 47 = .ok (.iconst 0, 1) := by decide +kernel
theorem d107_48 : decode prog_14_method_87_code 48 = .ok (.putfield 445, 3) := by decide +kernel
theorem d107_51 : decode prog_14_method_87_code 51 = .ok (.iconst 1, 1) := by decide +kernel
theorem d107_52 : decode prog_14_method_87_code 52 = .ok (.istore_n 2, 1) := by decide +kernel
theorem d107_53 : decode prog_14_method_87_code 53 = .ok (.iload_n 2, 1) := by decide +kernel
theorem d107_54 : decode prog_14_method_87_code 54 = .ok (.iconst 1, 1) := by decide +kernel
theorem d107_55 : decode prog_14_method_87_code 55 = .ok (.aload_n 0, 1) := by decide +kernel
theorem d107_56 : decode prog_14_method_87_code 56 = .ok (.getfield 49, 3) := by decide +kernel
theorem d107_59 : decode prog_14_method_87_code 59 = .ok (.aload_n 0, 1) := by decide +kernel
theorem d107_60 : decode prog_14_method_87_code 60 = .ok (.getfield 230, 3) := by decide +kernel
theorem d107_63 : decode prog_14_method_87_code 63 = .ok (.iaload, 1) := by decide +kernel
theorem d107_64 : decode prog_14_method_87_code 64 = .ok (.ishl, 1) := by decide +kernel
theorem d107_65 : decode prog_14_method_87_code 65 = .ok (.if_icmp .ge 94, 3) := by decide +kernel
theorem d107_159 : decode prog_14_method_87_code 159 = .ok (.return_, 1) := by decide +kernel
noncomputable def T_107 : Nat → Option xF := bn 42 (bn 11 (bn 5 (bn 1 (bl 0 (y_aload 0 1)) (bn 4 (bl 1 (y_invV 12 128 1 4)) (bl 4 (y_istore 1 5)))) (bn 9 (bn 6 (bl 5 (y_aload 0 6)) (bl 6 (y_invV 12 121 1 9))) (bn 10 (bl 9 (x_const 2147483648 10)) (bl 10 (y_istore 2 11))))) (bn 17 (bn 13 (bn 12 (bl 11 (y_iload 2 12)) (bl 12 (y_aload 0 13))) (bn 16 (bl 13 (y_getf 12 4 16)) (bl 16 (y_aload 0 17)))) (bn 21 (bn 20 (bl 17 (y_getf 12 2 20)) (bl 20 (y_iald 21))) (bn 41 (bl 21 (y_icmp yc3 41 24)) (bl 41 (y_aload 0 42)))))) (bn 54 (bn 48 (bn 46 (bn 43 (bl 42 (x_const 2147483648 43)) (bl 43 (y_putf 12 62 0 46))) (bn 47 (bl 46 (y_aload 0 47)) (bl 47 (x_const 2147483648 48)))) (bn 52 (bn 51 (bl 48 (y_putf 12 63 0 51)) (bl 51 (x_const 2147483649 52))) (bn 53 (bl 52 (y_istore 2 53)) (bl 53 (y_iload 2 54))))) (bn 60 (bn 56 (bn 55 (bl 54 (x_const 2147483649 55)) (bl 55 (y_aload 0 56))) (bn 59 (bl 56 (y_getf 12 4 59)) (bl 59 (y_aload 0 60)))) (bn 64 (bn 63 (bl 60 (y_getf 12 2 63)) (bl 63 (y_iald 64))) (bn 65 (bl 64 (y_bin (xfg (fun x y => x <<< (y &&& 31))) 65)) (bl 65 (y_icmp yc3 159 68))))))
set_option maxRecDepth 100000 in
set_option maxHeartbeats 4000000 in
theorem T_107_ok (G : State → Nat → Nat → Prop) : xTree PX G prog_14_method_87_code "CapitalCaseModel" false T_107 := (xT_n (xT_n (xT_n (xT_n (xT_l (yS (y_aload_eq _ _) (s_aload_n d107_0))) (xT_n (xT_l (yS (y_invV_eq _ _ _ _) (s_invV (T := TX12) d107_1 cal_128 rfl wd_1798 wd_1800 wd_100))) (xT_l (yS (y_istore_eq _ _) (s_istore_n d107_4))))) (xT_n (xT_n (xT_l (yS (y_aload_eq _ _) (s_aload_n d107_5))) (xT_l (yS (y_invV_eq _ _ _ _) (s_invV (T := TX12) d107_6 cal_121 rfl wd_1802 wd_1804 wd_101)))) (xT_n (xT_l (s_iconst d107_9 (by decide +kernel))) (xT_l (yS (y_istore_eq _ _) (s_istore_n d107_10)))))) (xT_n (xT_n (xT_n (xT_l (yS (y_iload_eq _ _) (s_iload_n d107_11))) (xT_l (yS (y_aload_eq _ _) (s_aload_n d107_12)))) (xT_n (xT_l (yS (y_getf_eq _ _ _) (s_getf (T := TX12) (N := 70) d107_13 rfl inX12 (by decide) wd_1305))) (xT_l (yS (y_aload_eq _ _) (s_aload_n d107_16))))) (xT_n (xT_n (xT_l (yS (y_getf_eq _ _ _) (s_getf (T := TX12) (N := 70) d107_17 rfl inX12 (by decide) wd_1299))) (xT_l (yS (y_iald_eq _) (s_iald d107_20)))) (xT_n (xT_l (yS (y_icmp_eq yc3_eq _ _) (s_icmpge d107_21 (by decide +kernel)))) (xT_l (yS (y_aload_eq _ _) (s_aload_n d107_41))))))) (xT_n (xT_n (xT_n (xT_n (xT_l (s_iconst d107_42 (by decide +kernel))) (xT_l (yS (y_putf_eq _ _ _ _) (s_putf (T := TX12) (N := 70) (ty := tyX12) d107_43 rfl inX12 tyX12_ok nmX12 (by decide) wd_1343 (Or.inl ⟨rfl, rfl⟩) rfl)))) (xT_n (xT_l (yS (y_aload_eq _ _) (s_aload_n d107_46))) (xT_l (s_iconst d107_47 (by decide +kernel))))) (xT_n (xT_n (xT_l (yS (y_putf_eq _ _ _ _) (s_putf (T := TX12) (N := 70) (ty := tyX12) d107_48 rfl inX12 tyX12_ok nmX12 (by decide) wd_1344 (Or.inl ⟨rfl, rfl⟩) rfl))) (xT_l (s_iconst d107_51 (by decide +kernel)))) (xT_n (xT_l (yS (y_istore_eq _ _) (s_istore_n d107_52))) (xT_l (yS (y_iload_eq _ _) (s_iload_n d107_53)))))) (xT_n (xT_n (xT_n (xT_l (s_iconst d107_54 (by decide +kernel))) (xT_l (yS (y_aload_eq _ _) (s_aload_n d107_55)))) (xT_n (xT_l (yS (y_getf_eq _ _ _) (s_getf (T := TX12) (N := 70) d107_56 rfl inX12 (by decide) wd_1305))) (xT_l (yS (y_aload_eq _ _) (s_aload_n d107_59))))) (xT_n (xT_n (xT_l (yS (y_getf_eq _ _ _) (s_getf (T := TX12) (N := 70) d107_60 rfl inX12 (by decide) wd_1299))) (xT_l (yS (y_iald_eq _) (s_iald d107_63)))) (xT_n (xT_l (yS (y_bin_eq _ _) (s_ishl d107_64))) (xT_l (yS (y_icmp_eq yc3_eq _ _) (s_icmpge d107_65 (by decide +kernel)))))))))
set_option maxRecDepth 100000 in
set_option maxHeartbeats 4000000 in
theorem M_107 : xMeth PX 107 (T_107, 5, [(159, 3)]) := ⟨⟨"CapitalCaseModel", "findsBest", "()V"⟩, prog_14_method_87_code, none, rfl, by decide, fun G => T_107_ok G, xrt_ok (xR_c (Or.inr (Or.inr (Or.inl ⟨rfl, d107_159, rfl⟩))) (xR_n))⟩
theorem d108_0 : decode prog_14_method_91_code 0 = .ok (.aload_n 0, 1) := by decide +kernel
theorem d108_1 : decode prog_14_method_91_code 1 = .ok (.invokevirtual 411, 3) := by decide +kernel
theorem d108_4 : decode prog_14_method_91_code 4 = .ok (.aload_n 0, 1) := by decide +kernel
theorem d108_5 : decode prog_14_method_91_code 5 = .ok (.iconst 1, 1) := by decide +kernel
theorem d108_6 : decode prog_14_method_91_code 6 = .ok (.putfield 331, 3) := by decide +kernel
theorem d108_9 : decode prog_14_method_91_code 9 = .ok (.iconst 0, 1) := by decide +kernel
theorem d108_10 : decode prog_14_method_91_code 10 = .ok (.istore_n 2, 1) := by decide +kernel
theorem d108_11 : decode prog_14_method_91_code 11 = .ok (.iload_n 2, 1) := by decide +kernel
theorem d108_12 : decode prog_14_method_91_code 12 = .ok (.aload_n 0, 1) := by decide +kernel
theorem d108_13 : decode prog_14_method_91_code 13 = .ok (.getfield 49, 3) := by decide +kernel
theorem d108_16 : decode prog_14_method_91_code 16 = .ok (.aload_n 0, 1) := by decide +kernel
theorem d108_17 : decode prog_14_method_91_code 17 = .ok (.getfield 230, 3) := by decide +kernel
theorem d108_20 : decode prog_14_method_91_code 20 = .ok (.iaload, 1) := by decide +kernel
theorem d108_21 : decode prog_14_method_91_code 21 = .ok (.if_icmp .ge 28, 3) := by decide +kernel
theorem d108_49 : decode prog_14_method_91_code 49 = .ok (.aload_n 0, 1) := by decide +kernel
theorem d108_50 : decode prog_14_method_91_code 50 = .ok (.invokevirtual 402, 3) := by decide +kernel
theorem d108_53 : decode prog_14_method_91_code 53 = .ok (.iconst 0, 1) := by decide +kernel
theorem d108_54 : decode prog_14_method_91_code 54 = .ok (.istore_n 2, 1) := by decide +kernel
theorem d108_55 : decode prog_14_method_91_code 55 = .ok (.iload_n 2, 1) := by decide +kernel
theorem d108_56 : decode prog_14_method_91_code 56 = .ok (.aload_n 0, 1) := by decide +kernel
theorem d108_57 : decode prog_14_method_91_code 57 = .ok (.getfield 49, 3) := by decide +kernel
theorem d108_60 : decode prog_14_method_91_code 60 = .ok (.aload_n 0, 1) := by decide +kernel
theorem d108_61 : decode prog_14_method_91_code 61 = .ok (.getfield 230, 3) := by decide +kernel
theorem d108_64 : decode prog_14_method_91_code 64 = .ok (.iaload, 1) := by decide +kernel
theorem d108_65 : decode prog_14_method_91_code 65 = .ok (.if_icmp .ge 36, 3) := by decide +kernel
theorem d108_101 : decode prog_14_method_91_code 101 = .ok (.aload_n 0, 1) := by decide +kernel
theorem d108_102 : decode prog_14_method_91_code 102 = .ok (.getfield 116, 3) := by decide +kernel
theorem d108_105 : decode prog_14_method_91_code 105 = .ok (.sipush 387, 3) := by decide +kernel
theorem d108_108 : decode prog_14_method_91_code 108 = .ok (.iaload, 1) := by decide +kernel
theorem d108_109 : decode prog_14_method_91_code 109 = .ok (.aload_n 0, 1) := by decide +kernel
theorem d108_110 : decode prog_14_method_91_code 110 = .ok (.getfield 113, 3) := by decide +kernel
theorem d108_113 : decode prog_14_method_91_code 113 = .ok (.sipush 387, 3) := by decide +kernel
theorem d108_116 : decode prog_14_method_91_code 116 = .ok (.iaload, 1) := by decide +kernel
theorem d108_117 : decode prog_14_method_91_code 117 = .ok (.isub, 1) := by decide +kernel
theorem d108_118 : decode prog_14_method_91_code 118 = .ok (.ireturn, 1) := by decide +kernel
noncomputable def T_108 : Nat → Option xF := bn 54 (bn 12 (bn 6 (bn 4 (bn 1 (bl 0 (y_aload 0 1)) (bl 1 (y_invV 12 101 1 4))) (bn 5 (bl 4 (y_aload 0 5)) (bl 5 (x_const 2147483649 6)))) (bn 10 (bn 9 (bl 6 (y_putf 12 7 1 9)) (bl 9 (x_const 2147483648 10))) (bn 11 (bl 10 (y_istore 2 11)) (bl 11 (y_iload 2 12))))) (bn 20 (bn 16 (bn 13 (bl 12 (y_aload 0 13)) (bl 13 (y_getf 12 4 16))) (bn 17 (bl 16 (y_aload 0 17)) (bl 17 (y_getf 12 2 20)))) (bn 49 (bn 21 (bl 20 (y_iald 21)) (bl 21 (y_icmp yc3 49 24))) (bn 50 (bl 49 (y_aload 0 50)) (bn 53 (bl 50 (y_invV 12 104 1 53)) (bl 53 (x_const 2147483648 54))))))) (bn 101 (bn 60 (bn 56 (bn 55 (bl 54 (y_istore 2 55)) (bl 55 (y_iload 2 56))) (bn 57 (bl 56 (y_aload 0 57)) (bl 57 (y_getf 12 4 60)))) (bn 64 (bn 61 (bl 60 (y_aload 0 61)) (bl 61 (y_getf 12 2 64))) (bn 65 (bl 64 (y_iald 65)) (bl 65 (y_icmp yc3 101 68))))) (bn 109 (bn 105 (bn 102 (bl 101 (y_aload 0 102)) (bl 102 (y_getf 12 0 105))) (bn 108 (bl 105 (x_const 2147484035 108)) (bl 108 (y_iald 109)))) (bn 113 (bn 110 (bl 109 (y_aload 0 110)) (bl 110 (y_getf 12 1 113))) (bn 116 (bl 113 (x_const 2147484035 116)) (bn 117 (bl 116 (y_iald 117)) (bl 117 (y_bin ysub 118)))))))
set_option maxRecDepth 100000 in
set_option maxHeartbeats 4000000 in
theorem T_108_ok (G : State → Nat → Nat → Prop) : xTree PX G prog_14_method_91_code "CapitalCaseModel" false T_108 := (xT_n (xT_n (xT_n (xT_n (xT_n (xT_l (yS (y_aload_eq _ _) (s_aload_n d108_0))) (xT_l (yS (y_invV_eq _ _ _ _) (s_invV (T := TX12) d108_1 cal_101 rfl wd_1635 wd_1637 wd_73)))) (xT_n (xT_l (yS (y_aload_eq _ _) (s_aload_n d108_4))) (xT_l (s_iconst d108_5 (by decide +kernel))))) (xT_n (xT_n (xT_l (yS (y_putf_eq _ _ _ _) (s_putf (T := TX12) (N := 70) (ty := tyX12) d108_6 rfl inX12 tyX12_ok nmX12 (by decide) wd_1334 (Or.inr (Or.inl ⟨rfl, rfl⟩)) rfl))) (xT_l (s_iconst d108_9 (by decide +kernel)))) (xT_n (xT_l (yS (y_istore_eq _ _) (s_istore_n d108_10))) (xT_l (yS (y_iload_eq _ _) (s_iload_n d108_11)))))) (xT_n (xT_n (xT_n (xT_l (yS (y_aload_eq _ _) (s_aload_n d108_12))) (xT_l (yS (y_getf_eq _ _ _) (s_getf (T := TX12) (N := 70) d108_13 rfl inX12 (by decide) wd_1305)))) (xT_n (xT_l (yS (y_aload_eq _ _) (s_aload_n d108_16))) (xT_l (yS (y_getf_eq _ _ _) (s_getf (T := TX12) (N := 70) d108_17 rfl inX12 (by decide) wd_1299))))) (xT_n (xT_n (xT_l (yS (y_iald_eq _) (s_iald d108_20))) (xT_l (yS (y_icmp_eq yc3_eq _ _) (s_icmpge d108_21 (by decide +kernel))))) (xT_n (xT_l (yS (y_aload_eq _ _) (s_aload_n d108_49))) (xT_n (xT_l (yS (y_invV_eq _ _ _ _) (s_invV (T := TX12) d108_50 cal_104 rfl wd_1758 wd_1760 wd_94))) (xT_l (s_iconst d108_53 (by decide +kernel)))))))) (xT_n (xT_n (xT_n (xT_n (xT_l (yS (y_istore_eq _ _) (s_istore_n d108_54))) (xT_l (yS (y_iload_eq _ _) (s_iload_n d108_55)))) (xT_n (xT_l (yS (y_aload_eq _ _) (s_aload_n d108_56))) (xT_l (yS (y_getf_eq _ _ _) (s_getf (T := TX12) (N := 70) d108_57 rfl inX12 (by decide) wd_1305))))) (xT_n (xT_n (xT_l (yS (y_aload_eq _ _) (s_aload_n d108_60))) (xT_l (yS (y_getf_eq _ _ _) (s_getf (T := TX12) (N := 70) d108_61 rfl inX12 (by decide) wd_1299)))) (xT_n (xT_l (yS (y_iald_eq _) (s_iald d108_64))) (xT_l (yS (y_icmp_eq yc3_eq _ _) (s_icmpge d108_65 (by decide +kernel))))))) (xT_n (xT_n (xT_n (xT_l (yS (y_aload_eq _ _) (s_aload_n d108_101))) (xT_l (yS (y_getf_eq _ _ _) (s_getf (T := TX12) (N := 70) d108_102 rfl inX12 (by decide) wd_1332)))) (xT_n (xT_l (s_sipush d108_105 (by decide +kernel))) (xT_l (yS (y_iald_eq _) (s_iald d108_108))))) (xT_n (xT_n (xT_l (yS (y_aload_eq _ _) (s_aload_n d108_109))) (xT_l (yS (y_getf_eq _ _ _) (s_getf (T := TX12) (N := 70) d108_110 rfl inX12 (by decide) wd_1331)))) (xT_n (xT_l (s_sipush d108_113 (by decide +kernel))) (xT_n (xT_l (yS (y_iald_eq _) (s_iald d108_116))) (xT_l (yS (y_bin_eq _ _) (s_isub d108_117)))))))))
set_option maxRecDepth 100000 in
set_option maxHeartbeats 4000000 in
theorem M_108 : xMeth PX 108 (T_108, 3, [(118, 1)]) := ⟨⟨"CapitalCaseModel", "firstDay", "(I)I"⟩, prog_14_method_91_code, (some .int), rfl, by decide, fun G => T_108_ok G, xrt_ok (xR_c (Or.inl ⟨rfl, d108_118, rfl⟩) (xR_n))⟩
theorem d109_0 : decode prog_14_method_107_code 0 = .ok (.aload_n 0, 1) := by decide +kernel
theorem d109_1 : decode prog_14_method_107_code 1 = .ok (.getfield 251, 3) := by decide +kernel
theorem d109_4 : decode prog_14_method_107_code 4 = .ok (.istore_n 1, 1) := by decide +kernel
theorem d109_5 : decode prog_14_method_107_code 5 = .ok (.aload_n 0, 1) := by decide +kernel
theorem d109_6 : decode prog_14_method_107_code 6 = .ok (.iconst 0, 1) := by decide +kernel
theorem d109_7 : decode prog_14_method_107_code 7 = .ok (.putfield 251, 3) := by decide +kernel
theorem d109_10 : decode prog_14_method_107_code 10 = .ok (.iload_n 1, 1) := by decide +kernel
theorem d109_11 : decode prog_14_method_107_code 11 = .ok (.ireturn, 1) := by decide +kernel
noncomputable def T_109 : Nat → Option xF := bn 5 (bn 1 (bl 0 (y_aload 0 1)) (bn 4 (bl 1 (y_getf 12 64 4)) (bl 4 (y_istore 1 5)))) (bn 7 (bn 6 (bl 5 (y_aload 0 6)) (bl 6 (x_const 2147483648 7))) (bn 10 (bl 7 (y_putf 12 64 0 10)) (bl 10 (y_iload 1 11))))
set_option maxRecDepth 100000 in
set_option maxHeartbeats 4000000 in
theorem T_109_ok (G : State → Nat → Nat → Prop) : xTree PX G prog_14_method_107_code "CapitalCaseModel" false T_109 := (xT_n (xT_n (xT_l (yS (y_aload_eq _ _) (s_aload_n d109_0))) (xT_n (xT_l (yS (y_getf_eq _ _ _) (s_getf (T := TX12) (N := 70) d109_1 rfl inX12 (by decide) wd_1345))) (xT_l (yS (y_istore_eq _ _) (s_istore_n d109_4))))) (xT_n (xT_n (xT_l (yS (y_aload_eq _ _) (s_aload_n d109_5))) (xT_l (s_iconst d109_6 (by decide +kernel)))) (xT_n (xT_l (yS (y_putf_eq _ _ _ _) (s_putf (T := TX12) (N := 70) (ty := tyX12) d109_7 rfl inX12 tyX12_ok nmX12 (by decide) wd_1345 (Or.inl ⟨rfl, rfl⟩) rfl))) (xT_l (yS (y_iload_eq _ _) (s_iload_n d109_10))))))
set_option maxRecDepth 100000 in
set_option maxHeartbeats 4000000 in
theorem M_109 : xMeth PX 109 (T_109, 2, [(11, 1)]) := ⟨⟨"CapitalCaseModel", "forget", "()I"⟩, prog_14_method_107_code, (some .int), rfl, by decide, fun G => T_109_ok G, xrt_ok (xR_c (Or.inl ⟨rfl, d109_11, rfl⟩) (xR_n))⟩
theorem d110_0 : decode prog_14_method_84_code 0 = .ok (.aload_n 0, 1) := by decide +kernel
theorem d110_1 : decode prog_14_method_84_code 1 = .ok (.iload_n 1, 1) := by decide +kernel
theorem d110_2 : decode prog_14_method_84_code 2 = .ok (.invokevirtual 417, 3) := by decide +kernel
theorem d110_5 : decode prog_14_method_84_code 5 = .ok (.ifCond .eq 27, 3) := by decide +kernel
theorem d110_32 : decode prog_14_method_84_code 32 = .ok (.iconst (-1), 1) := by decide +kernel
theorem d110_33 : decode prog_14_method_84_code 33 = .ok (.ireturn, 1) := by decide +kernel
noncomputable def T_110 : Nat → Option xF := bn 2 (bn 1 (bl 0 (y_aload 0 1)) (bl 1 (y_iload 1 2))) (bn 5 (bl 2 (y_invV 12 120 2 5)) (bn 32 (bl 5 (y_if yc0 32 8)) (bl 32 (x_const 2147483647 33))))
set_option maxRecDepth 100000 in
set_option maxHeartbeats 4000000 in
theorem T_110_ok (G : State → Nat → Nat → Prop) : xTree PX G prog_14_method_84_code "CapitalCaseModel" false T_110 := (xT_n (xT_n (xT_l (yS (y_aload_eq _ _) (s_aload_n d110_0))) (xT_l (yS (y_iload_eq _ _) (s_iload_n d110_1)))) (xT_n (xT_l (yS (y_invV_eq _ _ _ _) (s_invV (T := TX12) d110_2 cal_120 rfl wd_1678 wd_1680 wd_82))) (xT_n (xT_l (yS (y_if_eq yc0_eq _ _) (s_ifeq d110_5 (by decide +kernel)))) (xT_l (s_iconst d110_32 (by decide +kernel))))))
set_option maxRecDepth 100000 in
set_option maxHeartbeats 4000000 in
theorem M_110 : xMeth PX 110 (T_110, 3, [(33, 1)]) := ⟨⟨"CapitalCaseModel", "from", "(II)I"⟩, prog_14_method_84_code, (some .int), rfl, by decide, fun G => T_110_ok G, xrt_ok (xR_c (Or.inl ⟨rfl, d110_33, rfl⟩) (xR_n))⟩
theorem d111_0 : decode prog_14_method_81_code 0 = .ok (.aload_n 0, 1) := by decide +kernel
theorem d111_1 : decode prog_14_method_81_code 1 = .ok (.iload_n 1, 1) := by decide +kernel
theorem d111_2 : decode prog_14_method_81_code 2 = .ok (.iload_n 2, 1) := by decide +kernel
theorem d111_3 : decode prog_14_method_81_code 3 = .ok (.iload_n 3, 1) := by decide +kernel
theorem d111_4 : decode prog_14_method_81_code 4 = .ok (.invokevirtual 427, 3) := by decide +kernel
theorem d111_7 : decode prog_14_method_81_code 7 = .ok (.ifCond .ne 5, 3) := by decide +kernel
theorem d111_10 : decode prog_14_method_81_code 10 = .ok (.iconst 0, 1) := by decide +kernel
theorem d111_11 : decode prog_14_method_81_code 11 = .ok (.ireturn, 1) := by decide +kernel
noncomputable def T_111 : Nat → Option xF := bn 3 (bn 1 (bl 0 (y_aload 0 1)) (bn 2 (bl 1 (y_iload 1 2)) (bl 2 (y_iload 2 3)))) (bn 7 (bn 4 (bl 3 (y_iload 3 4)) (bl 4 (y_invV 12 91 4 7))) (bn 10 (bl 7 (y_if yc1 12 10)) (bl 10 (x_const 2147483648 11))))
set_option maxRecDepth 100000 in
set_option maxHeartbeats 4000000 in
theorem T_111_ok (G : State → Nat → Nat → Prop) : xTree PX G prog_14_method_81_code "CapitalCaseModel" false T_111 := (xT_n (xT_n (xT_l (yS (y_aload_eq _ _) (s_aload_n d111_0))) (xT_n (xT_l (yS (y_iload_eq _ _) (s_iload_n d111_1))) (xT_l (yS (y_iload_eq _ _) (s_iload_n d111_2))))) (xT_n (xT_n (xT_l (yS (y_iload_eq _ _) (s_iload_n d111_3))) (xT_l (yS (y_invV_eq _ _ _ _) (s_invV (T := TX12) d111_4 cal_91 rfl wd_1739 wd_1741 wd_92)))) (xT_n (xT_l (yS (y_if_eq yc1_eq _ _) (s_ifne d111_7 (by decide +kernel)))) (xT_l (s_iconst d111_10 (by decide +kernel))))))
set_option maxRecDepth 100000 in
set_option maxHeartbeats 4000000 in
theorem M_111 : xMeth PX 111 (T_111, 5, [(11, 2)]) := ⟨⟨"CapitalCaseModel", "giveBack", "(III)Z"⟩, prog_14_method_81_code, (some .boolean), rfl, by decide, fun G => T_111_ok G, xrt_ok (xR_c (Or.inr (Or.inl ⟨rfl, d111_11, rfl⟩)) (xR_n))⟩
theorem d112_0 : decode prog_14_method_71_code 0 = .ok (.iconst 0, 1) := by decide +kernel
theorem d112_1 : decode prog_14_method_71_code 1 = .ok (.istore_n 2, 1) := by decide +kernel
theorem d112_2 : decode prog_14_method_71_code 2 = .ok (.iload_n 2, 1) := by decide +kernel
theorem d112_3 : decode prog_14_method_71_code 3 = .ok (.iload_n 1, 1) := by decide +kernel
theorem d112_4 : decode prog_14_method_71_code 4 = .ok (.if_icmp .ge 13, 3) := by decide +kernel
theorem d112_7 : decode prog_14_method_71_code 7 = .ok (.aload_n 0, 1) := by decide +kernel
theorem d112_8 : decode prog_14_method_71_code 8 = .ok (.invokevirtual 402, 3) := by decide +kernel
theorem d112_11 : decode prog_14_method_71_code 11 = .ok (.iinc 2 1, 3) := by decide +kernel
theorem d112_14 : decode prog_14_method_71_code 14 = .ok (.goto (-12), 3) := by decide +kernel
theorem d112_17 : decode prog_14_method_71_code 17 = .ok (.return_, 1) := by decide +kernel
noncomputable def T_112 : Nat → Option xF := bn 4 (bn 2 (bn 1 (bl 0 (x_const 2147483648 1)) (bl 1 (y_istore 2 2))) (bn 3 (bl 2 (y_iload 2 3)) (bl 3 (y_iload 1 4)))) (bn 8 (bn 7 (bl 4 (y_icmp yc3 17 7)) (bl 7 (y_aload 0 8))) (bn 11 (bl 8 (y_invV 12 104 1 11)) (bn 14 (bl 11 (y_iinc 2 2147483649 14)) (bl 14 (x_goto 2)))))
set_option maxRecDepth 100000 in
set_option maxHeartbeats 4000000 in
theorem T_112_ok (G : State → Nat → Nat → Prop) : xTree PX G prog_14_method_71_code "CapitalCaseModel" false T_112 := (xT_n (xT_n (xT_n (xT_l (s_iconst d112_0 (by decide +kernel))) (xT_l (yS (y_istore_eq _ _) (s_istore_n d112_1)))) (xT_n (xT_l (yS (y_iload_eq _ _) (s_iload_n d112_2))) (xT_l (yS (y_iload_eq _ _) (s_iload_n d112_3))))) (xT_n (xT_n (xT_l (yS (y_icmp_eq yc3_eq _ _) (s_icmpge d112_4 (by decide +kernel)))) (xT_l (yS (y_aload_eq _ _) (s_aload_n d112_7)))) (xT_n (xT_l (yS (y_invV_eq _ _ _ _) (s_invV (T := TX12) d112_8 cal_104 rfl wd_1758 wd_1760 wd_94))) (xT_n (xT_l (yS (y_iinc_eq _ _ _) (s_iinc d112_11 (by decide +kernel)))) (xT_l (s_goto d112_14 (by decide +kernel)))))))
set_option maxRecDepth 100000 in
set_option maxHeartbeats 4000000 in
theorem M_112 : xMeth PX 112 (T_112, 3, [(17, 3)]) := ⟨⟨"CapitalCaseModel", "goes", "(I)V"⟩, prog_14_method_71_code, none, rfl, by decide, fun G => T_112_ok G, xrt_ok (xR_c (Or.inr (Or.inr (Or.inl ⟨rfl, d112_17, rfl⟩))) (xR_n))⟩
theorem d113_0 : decode prog_14_method_111_code 0 = .ok (.iload_n 1, 1) := by decide +kernel
theorem d113_1 : decode prog_14_method_111_code 1 = .ok (.iconst 0, 1) := by decide +kernel
theorem d113_2 : decode prog_14_method_111_code 2 = .ok (.iconst 2, 1) := by decide +kernel
theorem d113_3 : decode prog_14_method_111_code 3 = .ok (.invokestatic 324, 3) := by decide +kernel
theorem d113_6 : decode prog_14_method_111_code 6 = .ok (.ifCond .ne 5, 3) := by decide +kernel
theorem d113_9 : decode prog_14_method_111_code 9 = .ok (.iconst 0, 1) := by decide +kernel
theorem d113_10 : decode prog_14_method_111_code 10 = .ok (.ireturn, 1) := by decide +kernel
theorem d113_11 : decode prog_14_method_111_code 11 = .ok (.aload_n 0, 1) := by decide +kernel
theorem d113_12 : decode prog_14_method_111_code 12 = .ok (.getfield 143, 3) := by decide +kernel
theorem d113_15 : decode prog_14_method_111_code 15 = .ok (.iload_n 1, 1) := by decide +kernel
theorem d113_16 : decode prog_14_method_111_code 16 = .ok (.iconst 1, 1) := by decide +kernel
theorem d113_17 : decode prog_14_method_111_code 17 = .ok (.bastore, 1) := by decide +kernel
theorem d113_18 : decode prog_14_method_111_code 18 = .ok (.iconst 0, 1) := by decide +kernel
theorem d113_19 : decode prog_14_method_111_code 19 = .ok (.istore_n 2, 1) := by decide +kernel
theorem d113_20 : decode prog_14_method_111_code 20 = .ok (.iload_n 2, 1) := by decide +kernel
theorem d113_21 : decode prog_14_method_111_code 21 = .ok (.sipush 390, 3) := by decide +kernel
theorem d113_24 : decode prog_14_method_111_code 24 = .ok (.if_icmp .ge 27, 3) := by decide +kernel
theorem d113_27 : decode prog_14_method_111_code 27 = .ok (.aload_n 0, 1) := by decide +kernel
theorem d113_28 : decode prog_14_method_111_code 28 = .ok (.getfield 146, 3) := by decide +kernel
theorem d113_31 : decode prog_14_method_111_code 31 = .ok (.sipush 390, 3) := by decide +kernel
theorem d113_34 : decode prog_14_method_111_code 34 = .ok (.iload_n 1, 1) := by decide +kernel
theorem d113_35 : decode prog_14_method_111_code 35 = .ok (.imul, 1) := by decide +kernel
theorem d113_36 : decode prog_14_method_111_code 36 = .ok (.iload_n 2, 1) := by decide +kernel
theorem d113_37 : decode prog_14_method_111_code 37 = .ok (.iadd, 1) := by decide +kernel
theorem d113_38 : decode prog_14_method_111_code 38 = .ok (.aload_n 0, 1) := by decide +kernel
theorem d113_39 : decode prog_14_method_111_code 39 = .ok (.getfield 113, 3) := by decide +kernel
theorem d113_42 : decode prog_14_method_111_code 42 = .ok (.iload_n 2, 1) := by decide +kernel
theorem d113_43 : decode prog_14_method_111_code 43 = .ok (.iaload, 1) := by decide +kernel
theorem d113_44 : decode prog_14_method_111_code 44 = .ok (.iastore, 1) := by decide +kernel
theorem d113_45 : decode prog_14_method_111_code 45 = .ok (.iinc 2 1, 3) := by decide +kernel
theorem d113_48 : decode prog_14_method_111_code 48 = .ok (.goto (-28), 3) := by decide +kernel
theorem d113_51 : decode prog_14_method_111_code 51 = .ok (.iconst 1, 1) := by decide +kernel
theorem d113_52 : decode prog_14_method_111_code 52 = .ok (.ireturn, 1) := by decide +kernel
noncomputable def T_113 : Nat → Option xF := bn 24 (bn 12 (bn 3 (bn 1 (bl 0 (y_iload 1 1)) (bn 2 (bl 1 (x_const 2147483648 2)) (bl 2 (x_const 2147483650 3)))) (bn 9 (bn 6 (bl 3 (y_inv 115 3 6)) (bl 6 (y_if yc1 11 9))) (bn 11 (bl 9 (x_const 2147483648 10)) (bl 11 (y_aload 0 12))))) (bn 18 (bn 16 (bn 15 (bl 12 (y_getf 12 68 15)) (bl 15 (y_iload 1 16))) (bn 17 (bl 16 (x_const 2147483649 17)) (bl 17 (x_bast 18)))) (bn 20 (bn 19 (bl 18 (x_const 2147483648 19)) (bl 19 (y_istore 2 20))) (bn 21 (bl 20 (y_iload 2 21)) (bl 21 (x_const 2147484038 24)))))) (bn 38 (bn 34 (bn 28 (bn 27 (bl 24 (y_icmp yc3 51 27)) (bl 27 (y_aload 0 28))) (bn 31 (bl 28 (y_getf 12 69 31)) (bl 31 (x_const 2147484038 34)))) (bn 36 (bn 35 (bl 34 (y_iload 1 35)) (bl 35 (y_bin (xfg (fun x y => x * y)) 36))) (bn 37 (bl 36 (y_iload 2 37)) (bl 37 (y_bin yadd 38))))) (bn 44 (bn 42 (bn 39 (bl 38 (y_aload 0 39)) (bl 39 (y_getf 12 1 42))) (bn 43 (bl 42 (y_iload 2 43)) (bl 43 (y_iald 44)))) (bn 48 (bn 45 (bl 44 (y_iast 45)) (bl 45 (y_iinc 2 2147483649 48))) (bn 51 (bl 48 (x_goto 20)) (bl 51 (x_const 2147483649 52))))))
set_option maxRecDepth 100000 in
set_option maxHeartbeats 4000000 in
theorem T_113_ok (G : State → Nat → Nat → Prop) : xTree PX G prog_14_method_111_code "CapitalCaseModel" false T_113 := (xT_n (xT_n (xT_n (xT_n (xT_l (yS (y_iload_eq _ _) (s_iload_n d113_0))) (xT_n (xT_l (s_iconst d113_1 (by decide +kernel))) (xT_l (s_iconst d113_2 (by decide +kernel))))) (xT_n (xT_n (xT_l (yS (y_inv_eq _ _ _) (s_invS d113_3 cal_115 wd_1629 wd_1630))) (xT_l (yS (y_if_eq yc1_eq _ _) (s_ifne d113_6 (by decide +kernel))))) (xT_n (xT_l (s_iconst d113_9 (by decide +kernel))) (xT_l (yS (y_aload_eq _ _) (s_aload_n d113_11)))))) (xT_n (xT_n (xT_n (xT_l (yS (y_getf_eq _ _ _) (s_getf (T := TX12) (N := 70) d113_12 rfl inX12 (by decide) wd_1349))) (xT_l (yS (y_iload_eq _ _) (s_iload_n d113_15)))) (xT_n (xT_l (s_iconst d113_16 (by decide +kernel))) (xT_l (s_bast d113_17)))) (xT_n (xT_n (xT_l (s_iconst d113_18 (by decide +kernel))) (xT_l (yS (y_istore_eq _ _) (s_istore_n d113_19)))) (xT_n (xT_l (yS (y_iload_eq _ _) (s_iload_n d113_20))) (xT_l (s_sipush d113_21 (by decide +kernel))))))) (xT_n (xT_n (xT_n (xT_n (xT_l (yS (y_icmp_eq yc3_eq _ _) (s_icmpge d113_24 (by decide +kernel)))) (xT_l (yS (y_aload_eq _ _) (s_aload_n d113_27)))) (xT_n (xT_l (yS (y_getf_eq _ _ _) (s_getf (T := TX12) (N := 70) d113_28 rfl inX12 (by decide) wd_1350))) (xT_l (s_sipush d113_31 (by decide +kernel))))) (xT_n (xT_n (xT_l (yS (y_iload_eq _ _) (s_iload_n d113_34))) (xT_l (yS (y_bin_eq _ _) (s_imul d113_35)))) (xT_n (xT_l (yS (y_iload_eq _ _) (s_iload_n d113_36))) (xT_l (yS (y_bin_eq _ _) (s_iadd d113_37)))))) (xT_n (xT_n (xT_n (xT_l (yS (y_aload_eq _ _) (s_aload_n d113_38))) (xT_l (yS (y_getf_eq _ _ _) (s_getf (T := TX12) (N := 70) d113_39 rfl inX12 (by decide) wd_1331)))) (xT_n (xT_l (yS (y_iload_eq _ _) (s_iload_n d113_42))) (xT_l (yS (y_iald_eq _) (s_iald d113_43))))) (xT_n (xT_n (xT_l (yS (y_iast_eq _) (s_iast d113_44))) (xT_l (yS (y_iinc_eq _ _ _) (s_iinc d113_45 (by decide +kernel))))) (xT_n (xT_l (s_goto d113_48 (by decide +kernel))) (xT_l (s_iconst d113_51 (by decide +kernel))))))))
set_option maxRecDepth 100000 in
set_option maxHeartbeats 4000000 in
theorem M_113 : xMeth PX 113 (T_113, 3, [(10, 2), (52, 2)]) := ⟨⟨"CapitalCaseModel", "hold", "(I)Z"⟩, prog_14_method_111_code, (some .boolean), rfl, by decide, fun G => T_113_ok G, xrt_ok (xR_c (Or.inr (Or.inl ⟨rfl, d113_10, rfl⟩)) (xR_c (Or.inr (Or.inl ⟨rfl, d113_52, rfl⟩)) (xR_n)))⟩
theorem d114_0 : decode prog_14_method_72_code 0 = .ok (.aload_n 0, 1) := by decide +kernel
theorem d114_1 : decode prog_14_method_72_code 1 = .ok (.iload_n 1, 1) := by decide +kernel
theorem d114_2 : decode prog_14_method_72_code 2 = .ok (.invokevirtual 405, 3) := by decide +kernel
theorem d114_5 : decode prog_14_method_72_code 5 = .ok (.ifCond .eq 10, 3) := by decide +kernel
theorem d114_15 : decode prog_14_method_72_code 15 = .ok (.iconst (-1), 1) := by decide +kernel
theorem d114_16 : decode prog_14_method_72_code 16 = .ok (.ireturn, 1) := by decide +kernel
noncomputable def T_114 : Nat → Option xF := bn 2 (bn 1 (bl 0 (y_aload 0 1)) (bl 1 (y_iload 1 2))) (bn 5 (bl 2 (y_invV 12 117 2 5)) (bn 15 (bl 5 (y_if yc0 15 8)) (bl 15 (x_const 2147483647 16))))
set_option maxRecDepth 100000 in
set_option maxHeartbeats 4000000 in
theorem T_114_ok (G : State → Nat → Nat → Prop) : xTree PX G prog_14_method_72_code "CapitalCaseModel" false T_114 := (xT_n (xT_n (xT_l (yS (y_aload_eq _ _) (s_aload_n d114_0))) (xT_l (yS (y_iload_eq _ _) (s_iload_n d114_1)))) (xT_n (xT_l (yS (y_invV_eq _ _ _ _) (s_invV (T := TX12) d114_2 cal_117 rfl wd_1625 wd_1627 wd_72))) (xT_n (xT_l (yS (y_if_eq yc0_eq _ _) (s_ifeq d114_5 (by decide +kernel)))) (xT_l (s_iconst d114_15 (by decide +kernel))))))
set_option maxRecDepth 100000 in
set_option maxHeartbeats 4000000 in
theorem M_114 : xMeth PX 114 (T_114, 5, [(16, 1)]) := ⟨⟨"CapitalCaseModel", "house", "(III)I"⟩, prog_14_method_72_code, (some .int), rfl, by decide, fun G => T_114_ok G, xrt_ok (xR_c (Or.inl ⟨rfl, d114_16, rfl⟩) (xR_n))⟩
theorem d115_0 : decode prog_14_method_40_code 0 = .ok (.iload_n 0, 1) := by decide +kernel
theorem d115_1 : decode prog_14_method_40_code 1 = .ok (.iload_n 1, 1) := by decide +kernel
theorem d115_2 : decode prog_14_method_40_code 2 = .ok (.if_icmp .lt 12, 3) := by decide +kernel
theorem d115_5 : decode prog_14_method_40_code 5 = .ok (.iload_n 0, 1) := by decide +kernel
theorem d115_6 : decode prog_14_method_40_code 6 = .ok (.iload_n 2, 1) := by decide +kernel
theorem d115_7 : decode prog_14_method_40_code 7 = .ok (.if_icmp .gt 7, 3) := by decide +kernel
theorem d115_10 : decode prog_14_method_40_code 10 = .ok (.iconst 1, 1) := by decide +kernel
theorem d115_11 : decode prog_14_method_40_code 11 = .ok (.goto 4, 3) := by decide +kernel
theorem d115_14 : decode prog_14_method_40_code 14 = .ok (.iconst 0, 1) := by decide +kernel
theorem d115_15 : decode prog_14_method_40_code 15 = .ok (.ireturn, 1) := by decide +kernel
noncomputable def T_115 : Nat → Option xF := bn 6 (bn 2 (bn 1 (bl 0 (y_iload 0 1)) (bl 1 (y_iload 1 2))) (bn 5 (bl 2 (y_icmp yc2 14 5)) (bl 5 (y_iload 0 6)))) (bn 10 (bn 7 (bl 6 (y_iload 2 7)) (bl 7 (y_icmp yc4 14 10))) (bn 11 (bl 10 (x_const 2147483649 11)) (bn 14 (bl 11 (x_goto 15)) (bl 14 (x_const 2147483648 15)))))
set_option maxRecDepth 100000 in
set_option maxHeartbeats 4000000 in
theorem T_115_ok (G : State → Nat → Nat → Prop) : xTree PX G prog_14_method_40_code "CapitalCaseModel" false T_115 := (xT_n (xT_n (xT_n (xT_l (yS (y_iload_eq _ _) (s_iload_n d115_0))) (xT_l (yS (y_iload_eq _ _) (s_iload_n d115_1)))) (xT_n (xT_l (yS (y_icmp_eq yc2_eq _ _) (s_icmplt d115_2 (by decide +kernel)))) (xT_l (yS (y_iload_eq _ _) (s_iload_n d115_5))))) (xT_n (xT_n (xT_l (yS (y_iload_eq _ _) (s_iload_n d115_6))) (xT_l (yS (y_icmp_eq yc4_eq _ _) (s_icmpgt d115_7 (by decide +kernel))))) (xT_n (xT_l (s_iconst d115_10 (by decide +kernel))) (xT_n (xT_l (s_goto d115_11 (by decide +kernel))) (xT_l (s_iconst d115_14 (by decide +kernel)))))))
set_option maxRecDepth 100000 in
set_option maxHeartbeats 4000000 in
theorem M_115 : xMeth PX 115 (T_115, 3, [(15, 2)]) := ⟨⟨"CapitalCaseModel", "in", "(III)Z"⟩, prog_14_method_40_code, (some .boolean), rfl, by decide, fun G => T_115_ok G, xrt_ok (xR_c (Or.inr (Or.inl ⟨rfl, d115_15, rfl⟩)) (xR_n))⟩
theorem d116_0 : decode prog_14_method_14_code 0 = .ok (.aload_n 0, 1) := by decide +kernel
theorem d116_1 : decode prog_14_method_14_code 1 = .ok (.getfield 200, 3) := by decide +kernel
theorem d116_4 : decode prog_14_method_14_code 4 = .ok (.ifCond .ne 20, 3) := by decide +kernel
theorem d116_7 : decode prog_14_method_14_code 7 = .ok (.aload_n 0, 1) := by decide +kernel
theorem d116_8 : decode prog_14_method_14_code 8 = .ok (.getfield 20, 3) := by decide +kernel
theorem d116_11 : decode prog_14_method_14_code 11 = .ok (.aload_n 0, 1) := by decide +kernel
theorem d116_12 : decode prog_14_method_14_code 12 = .ok (.getfield 203, 3) := by decide +kernel
theorem d116_15 : decode prog_14_method_14_code 15 = .ok (.iaload, 1) := by decide +kernel
theorem d116_16 : decode prog_14_method_14_code 16 = .ok (.iload_n 1, 1) := by decide +kernel
theorem d116_17 : decode prog_14_method_14_code 17 = .ok (.if_icmp .ne 7, 3) := by decide +kernel
theorem d116_20 : decode prog_14_method_14_code 20 = .ok (.iconst 1, 1) := by decide +kernel
theorem d116_21 : decode prog_14_method_14_code 21 = .ok (.goto 4, 3) := by decide +kernel
theorem d116_25 : decode prog_14_method_14_code 25 = .ok (.ireturn, 1) := by decide +kernel
noncomputable def T_116 : Nat → Option xF := bn 12 (bn 7 (bn 1 (bl 0 (y_aload 0 1)) (bn 4 (bl 1 (y_getf 12 27 4)) (bl 4 (y_if yc1 24 7)))) (bn 8 (bl 7 (y_aload 0 8)) (bn 11 (bl 8 (y_getf 12 19 11)) (bl 11 (y_aload 0 12))))) (bn 17 (bn 15 (bl 12 (y_getf 12 25 15)) (bn 16 (bl 15 (y_iald 16)) (bl 16 (y_iload 1 17)))) (bn 20 (bl 17 (y_icmp yc1 24 20)) (bn 21 (bl 20 (x_const 2147483649 21)) (bl 21 (x_goto 25)))))
set_option maxRecDepth 100000 in
set_option maxHeartbeats 4000000 in
theorem T_116_ok (G : State → Nat → Nat → Prop) : xTree PX G prog_14_method_14_code "CapitalCaseModel" false T_116 := (xT_n (xT_n (xT_n (xT_l (yS (y_aload_eq _ _) (s_aload_n d116_0))) (xT_n (xT_l (yS (y_getf_eq _ _ _) (s_getf (T := TX12) (N := 70) d116_1 rfl inX12 (by decide) wd_1294))) (xT_l (yS (y_if_eq yc1_eq _ _) (s_ifne d116_4 (by decide +kernel)))))) (xT_n (xT_l (yS (y_aload_eq _ _) (s_aload_n d116_7))) (xT_n (xT_l (yS (y_getf_eq _ _ _) (s_getf (T := TX12) (N := 70) d116_8 rfl inX12 (by decide) wd_1286))) (xT_l (yS (y_aload_eq _ _) (s_aload_n d116_11)))))) (xT_n (xT_n (xT_l (yS (y_getf_eq _ _ _) (s_getf (T := TX12) (N := 70) d116_12 rfl inX12 (by decide) wd_1292))) (xT_n (xT_l (yS (y_iald_eq _) (s_iald d116_15))) (xT_l (yS (y_iload_eq _ _) (s_iload_n d116_16))))) (xT_n (xT_l (yS (y_icmp_eq yc1_eq _ _) (s_icmpne d116_17 (by decide +kernel)))) (xT_n (xT_l (s_iconst d116_20 (by decide +kernel))) (xT_l (s_goto d116_21 (by decide +kernel)))))))
set_option maxRecDepth 100000 in
set_option maxHeartbeats 4000000 in
theorem M_116 : xMeth PX 116 (T_116, 2, [(25, 2)]) := ⟨⟨"CapitalCaseModel", "is", "(I)Z"⟩, prog_14_method_14_code, (some .boolean), rfl, by decide, fun G => T_116_ok G, xrt_ok (xR_c (Or.inr (Or.inl ⟨rfl, d116_25, rfl⟩)) (xR_n))⟩
theorem d117_0 : decode prog_14_method_43_code 0 = .ok (.iload_n 1, 1) := by decide +kernel
theorem d117_1 : decode prog_14_method_43_code 1 = .ok (.iconst 0, 1) := by decide +kernel
theorem d117_2 : decode prog_14_method_43_code 2 = .ok (.aload_n 0, 1) := by decide +kernel
theorem d117_3 : decode prog_14_method_43_code 3 = .ok (.getfield 43, 3) := by decide +kernel
theorem d117_6 : decode prog_14_method_43_code 6 = .ok (.aload_n 0, 1) := by decide +kernel
theorem d117_7 : decode prog_14_method_43_code 7 = .ok (.getfield 230, 3) := by decide +kernel
theorem d117_10 : decode prog_14_method_43_code 10 = .ok (.iaload, 1) := by decide +kernel
theorem d117_11 : decode prog_14_method_43_code 11 = .ok (.iconst 1, 1) := by decide +kernel
theorem d117_12 : decode prog_14_method_43_code 12 = .ok (.isub, 1) := by decide +kernel
theorem d117_13 : decode prog_14_method_43_code 13 = .ok (.invokestatic 324, 3) := by decide +kernel
theorem d117_16 : decode prog_14_method_43_code 16 = .ok (.ireturn, 1) := by decide +kernel
noncomputable def T_117 : Nat → Option xF := bn 7 (bn 2 (bn 1 (bl 0 (y_iload 1 1)) (bl 1 (x_const 2147483648 2))) (bn 3 (bl 2 (y_aload 0 3)) (bn 6 (bl 3 (y_getf 12 3 6)) (bl 6 (y_aload 0 7))))) (bn 11 (bn 10 (bl 7 (y_getf 12 2 10)) (bl 10 (y_iald 11))) (bn 12 (bl 11 (x_const 2147483649 12)) (bn 13 (bl 12 (y_bin ysub 13)) (bl 13 (y_inv 115 3 16)))))
set_option maxRecDepth 100000 in
set_option maxHeartbeats 4000000 in
theorem T_117_ok (G : State → Nat → Nat → Prop) : xTree PX G prog_14_method_43_code "CapitalCaseModel" false T_117 := (xT_n (xT_n (xT_n (xT_l (yS (y_iload_eq _ _) (s_iload_n d117_0))) (xT_l (s_iconst d117_1 (by decide +kernel)))) (xT_n (xT_l (yS (y_aload_eq _ _) (s_aload_n d117_2))) (xT_n (xT_l (yS (y_getf_eq _ _ _) (s_getf (T := TX12) (N := 70) d117_3 rfl inX12 (by decide) wd_1303))) (xT_l (yS (y_aload_eq _ _) (s_aload_n d117_6)))))) (xT_n (xT_n (xT_l (yS (y_getf_eq _ _ _) (s_getf (T := TX12) (N := 70) d117_7 rfl inX12 (by decide) wd_1299))) (xT_l (yS (y_iald_eq _) (s_iald d117_10)))) (xT_n (xT_l (s_iconst d117_11 (by decide +kernel))) (xT_n (xT_l (yS (y_bin_eq _ _) (s_isub d117_12))) (xT_l (yS (y_inv_eq _ _ _) (s_invS d117_13 cal_115 wd_1629 wd_1630)))))))
set_option maxRecDepth 100000 in
set_option maxHeartbeats 4000000 in
theorem M_117 : xMeth PX 117 (T_117, 2, [(16, 2)]) := ⟨⟨"CapitalCaseModel", "isHouse", "(I)Z"⟩, prog_14_method_43_code, (some .boolean), rfl, by decide, fun G => T_117_ok G, xrt_ok (xR_c (Or.inr (Or.inl ⟨rfl, d117_16, rfl⟩)) (xR_n))⟩
theorem d118_0 : decode prog_14_method_101_code 0 = .ok (.iload_n 0, 1) := by decide +kernel
theorem d118_1 : decode prog_14_method_101_code 1 = .ok (.iconst 0, 1) := by decide +kernel
theorem d118_2 : decode prog_14_method_101_code 2 = .ok (.bipush 60, 2) := by decide +kernel
theorem d118_4 : decode prog_14_method_101_code 4 = .ok (.invokestatic 324, 3) := by decide +kernel
theorem d118_7 : decode prog_14_method_101_code 7 = .ok (.ireturn, 1) := by decide +kernel
noncomputable def T_118 : Nat → Option xF := bn 2 (bn 1 (bl 0 (y_iload 0 1)) (bl 1 (x_const 2147483648 2))) (bn 4 (bl 2 (x_const 2147483708 4)) (bl 4 (y_inv 115 3 7)))
set_option maxRecDepth 100000 in
set_option maxHeartbeats 4000000 in
theorem T_118_ok (G : State → Nat → Nat → Prop) : xTree PX G prog_14_method_101_code "CapitalCaseModel" false T_118 := (xT_n (xT_n (xT_l (yS (y_iload_eq _ _) (s_iload_n d118_0))) (xT_l (s_iconst d118_1 (by decide +kernel)))) (xT_n (xT_l (s_bipush d118_2 (by decide +kernel))) (xT_l (yS (y_inv_eq _ _ _) (s_invS d118_4 cal_115 wd_1629 wd_1630)))))
set_option maxRecDepth 100000 in
set_option maxHeartbeats 4000000 in
theorem M_118 : xMeth PX 118 (T_118, 1, [(7, 2)]) := ⟨⟨"CapitalCaseModel", "isLong", "(I)Z"⟩, prog_14_method_101_code, (some .boolean), rfl, by decide, fun G => T_118_ok G, xrt_ok (xR_c (Or.inr (Or.inl ⟨rfl, d118_7, rfl⟩)) (xR_n))⟩
theorem d119_0 : decode prog_14_method_44_code 0 = .ok (.iload_n 0, 1) := by decide +kernel
theorem d119_1 : decode prog_14_method_44_code 1 = .ok (.iconst 0, 1) := by decide +kernel
theorem d119_2 : decode prog_14_method_44_code 2 = .ok (.bipush 7, 2) := by decide +kernel
theorem d119_4 : decode prog_14_method_44_code 4 = .ok (.invokestatic 324, 3) := by decide +kernel
theorem d119_7 : decode prog_14_method_44_code 7 = .ok (.ireturn, 1) := by decide +kernel
noncomputable def T_119 : Nat → Option xF := bn 2 (bn 1 (bl 0 (y_iload 0 1)) (bl 1 (x_const 2147483648 2))) (bn 4 (bl 2 (x_const 2147483655 4)) (bl 4 (y_inv 115 3 7)))
set_option maxRecDepth 100000 in
set_option maxHeartbeats 4000000 in
theorem T_119_ok (G : State → Nat → Nat → Prop) : xTree PX G prog_14_method_44_code "CapitalCaseModel" false T_119 := (xT_n (xT_n (xT_l (yS (y_iload_eq _ _) (s_iload_n d119_0))) (xT_l (s_iconst d119_1 (by decide +kernel)))) (xT_n (xT_l (s_bipush d119_2 (by decide +kernel))) (xT_l (yS (y_inv_eq _ _ _) (s_invS d119_4 cal_115 wd_1629 wd_1630)))))
set_option maxRecDepth 100000 in
set_option maxHeartbeats 4000000 in
theorem M_119 : xMeth PX 119 (T_119, 1, [(7, 2)]) := ⟨⟨"CapitalCaseModel", "isSort", "(I)Z"⟩, prog_14_method_44_code, (some .boolean), rfl, by decide, fun G => T_119_ok G, xrt_ok (xR_c (Or.inr (Or.inl ⟨rfl, d119_7, rfl⟩)) (xR_n))⟩
theorem d120_0 : decode prog_14_method_45_code 0 = .ok (.iload_n 1, 1) := by decide +kernel
theorem d120_1 : decode prog_14_method_45_code 1 = .ok (.iconst 0, 1) := by decide +kernel
theorem d120_2 : decode prog_14_method_45_code 2 = .ok (.aload_n 0, 1) := by decide +kernel
theorem d120_3 : decode prog_14_method_45_code 3 = .ok (.getfield 49, 3) := by decide +kernel
theorem d120_6 : decode prog_14_method_45_code 6 = .ok (.aload_n 0, 1) := by decide +kernel
theorem d120_7 : decode prog_14_method_45_code 7 = .ok (.getfield 230, 3) := by decide +kernel
theorem d120_10 : decode prog_14_method_45_code 10 = .ok (.iaload, 1) := by decide +kernel
theorem d120_11 : decode prog_14_method_45_code 11 = .ok (.iconst 1, 1) := by decide +kernel
theorem d120_12 : decode prog_14_method_45_code 12 = .ok (.isub, 1) := by decide +kernel
theorem d120_13 : decode prog_14_method_45_code 13 = .ok (.invokestatic 324, 3) := by decide +kernel
theorem d120_16 : decode prog_14_method_45_code 16 = .ok (.ireturn, 1) := by decide +kernel
noncomputable def T_120 : Nat → Option xF := bn 7 (bn 2 (bn 1 (bl 0 (y_iload 1 1)) (bl 1 (x_const 2147483648 2))) (bn 3 (bl 2 (y_aload 0 3)) (bn 6 (bl 3 (y_getf 12 4 6)) (bl 6 (y_aload 0 7))))) (bn 11 (bn 10 (bl 7 (y_getf 12 2 10)) (bl 10 (y_iald 11))) (bn 12 (bl 11 (x_const 2147483649 12)) (bn 13 (bl 12 (y_bin ysub 13)) (bl 13 (y_inv 115 3 16)))))
set_option maxRecDepth 100000 in
set_option maxHeartbeats 4000000 in
theorem T_120_ok (G : State → Nat → Nat → Prop) : xTree PX G prog_14_method_45_code "CapitalCaseModel" false T_120 := (xT_n (xT_n (xT_n (xT_l (yS (y_iload_eq _ _) (s_iload_n d120_0))) (xT_l (s_iconst d120_1 (by decide +kernel)))) (xT_n (xT_l (yS (y_aload_eq _ _) (s_aload_n d120_2))) (xT_n (xT_l (yS (y_getf_eq _ _ _) (s_getf (T := TX12) (N := 70) d120_3 rfl inX12 (by decide) wd_1305))) (xT_l (yS (y_aload_eq _ _) (s_aload_n d120_6)))))) (xT_n (xT_n (xT_l (yS (y_getf_eq _ _ _) (s_getf (T := TX12) (N := 70) d120_7 rfl inX12 (by decide) wd_1299))) (xT_l (yS (y_iald_eq _) (s_iald d120_10)))) (xT_n (xT_l (s_iconst d120_11 (by decide +kernel))) (xT_n (xT_l (yS (y_bin_eq _ _) (s_isub d120_12))) (xT_l (yS (y_inv_eq _ _ _) (s_invS d120_13 cal_115 wd_1629 wd_1630)))))))
set_option maxRecDepth 100000 in
set_option maxHeartbeats 4000000 in
theorem M_120 : xMeth PX 120 (T_120, 2, [(16, 2)]) := ⟨⟨"CapitalCaseModel", "isVerse", "(I)Z"⟩, prog_14_method_45_code, (some .boolean), rfl, by decide, fun G => T_120_ok G, xrt_ok (xR_c (Or.inr (Or.inl ⟨rfl, d120_16, rfl⟩)) (xR_n))⟩
theorem d121_0 : decode prog_14_method_85_code 0 = .ok (.iconst 0, 1) := by decide +kernel
theorem d121_1 : decode prog_14_method_85_code 1 = .ok (.istore_n 1, 1) := by decide +kernel
theorem d121_2 : decode prog_14_method_85_code 2 = .ok (.iload_n 1, 1) := by decide +kernel
theorem d121_3 : decode prog_14_method_85_code 3 = .ok (.sipush 390, 3) := by decide +kernel
theorem d121_6 : decode prog_14_method_85_code 6 = .ok (.if_icmp .ge 21, 3) := by decide +kernel
theorem d121_9 : decode prog_14_method_85_code 9 = .ok (.aload_n 0, 1) := by decide +kernel
theorem d121_10 : decode prog_14_method_85_code 10 = .ok (.getfield 131, 3) := by decide +kernel
theorem d121_13 : decode prog_14_method_85_code 13 = .ok (.iload_n 1, 1) := by decide +kernel
theorem d121_14 : decode prog_14_method_85_code 14 = .ok (.aload_n 0, 1) := by decide +kernel
theorem d121_15 : decode prog_14_method_85_code 15 = .ok (.getfield 116, 3) := by decide +kernel
theorem d121_18 : decode prog_14_method_85_code 18 = .ok (.iload_n 1, 1) := by decide +kernel
theorem d121_19 : decode prog_14_method_85_code 19 = .ok (.iaload, 1) := by decide +kernel
theorem d121_20 : decode prog_14_method_85_code 20 = .ok (.iastore, 1) := by decide +kernel
theorem d121_21 : decode prog_14_method_85_code 21 = .ok (.iinc 1 1, 3) := by decide +kernel
theorem d121_24 : decode prog_14_method_85_code 24 = .ok (.goto (-22), 3) := by decide +kernel
theorem d121_27 : decode prog_14_method_85_code 27 = .ok (.return_, 1) := by decide +kernel
noncomputable def T_121 : Nat → Option xF := bn 13 (bn 3 (bn 1 (bl 0 (x_const 2147483648 1)) (bn 2 (bl 1 (y_istore 1 2)) (bl 2 (y_iload 1 3)))) (bn 9 (bn 6 (bl 3 (x_const 2147484038 6)) (bl 6 (y_icmp yc3 27 9))) (bn 10 (bl 9 (y_aload 0 10)) (bl 10 (y_getf 12 61 13))))) (bn 19 (bn 15 (bn 14 (bl 13 (y_iload 1 14)) (bl 14 (y_aload 0 15))) (bn 18 (bl 15 (y_getf 12 0 18)) (bl 18 (y_iload 1 19)))) (bn 21 (bn 20 (bl 19 (y_iald 20)) (bl 20 (y_iast 21))) (bn 24 (bl 21 (y_iinc 1 2147483649 24)) (bl 24 (x_goto 2)))))
set_option maxRecDepth 100000 in
set_option maxHeartbeats 4000000 in
theorem T_121_ok (G : State → Nat → Nat → Prop) : xTree PX G prog_14_method_85_code "CapitalCaseModel" false T_121 := (xT_n (xT_n (xT_n (xT_l (s_iconst d121_0 (by decide +kernel))) (xT_n (xT_l (yS (y_istore_eq _ _) (s_istore_n d121_1))) (xT_l (yS (y_iload_eq _ _) (s_iload_n d121_2))))) (xT_n (xT_n (xT_l (s_sipush d121_3 (by decide +kernel))) (xT_l (yS (y_icmp_eq yc3_eq _ _) (s_icmpge d121_6 (by decide +kernel))))) (xT_n (xT_l (yS (y_aload_eq _ _) (s_aload_n d121_9))) (xT_l (yS (y_getf_eq _ _ _) (s_getf (T := TX12) (N := 70) d121_10 rfl inX12 (by decide) wd_1342)))))) (xT_n (xT_n (xT_n (xT_l (yS (y_iload_eq _ _) (s_iload_n d121_13))) (xT_l (yS (y_aload_eq _ _) (s_aload_n d121_14)))) (xT_n (xT_l (yS (y_getf_eq _ _ _) (s_getf (T := TX12) (N := 70) d121_15 rfl inX12 (by decide) wd_1332))) (xT_l (yS (y_iload_eq _ _) (s_iload_n d121_18))))) (xT_n (xT_n (xT_l (yS (y_iald_eq _) (s_iald d121_19))) (xT_l (yS (y_iast_eq _) (s_iast d121_20)))) (xT_n (xT_l (yS (y_iinc_eq _ _ _) (s_iinc d121_21 (by decide +kernel)))) (xT_l (s_goto d121_24 (by decide +kernel)))))))
set_option maxRecDepth 100000 in
set_option maxHeartbeats 4000000 in
theorem M_121 : xMeth PX 121 (T_121, 2, [(27, 3)]) := ⟨⟨"CapitalCaseModel", "keepsAhead", "()V"⟩, prog_14_method_85_code, none, rfl, by decide, fun G => T_121_ok G, xrt_ok (xR_c (Or.inr (Or.inr (Or.inl ⟨rfl, d121_27, rfl⟩))) (xR_n))⟩
theorem d122_0 : decode prog_14_method_47_code 0 = .ok (.iconst 0, 1) := by decide +kernel
theorem d122_1 : decode prog_14_method_47_code 1 = .ok (.istore_n 1, 1) := by decide +kernel
theorem d122_2 : decode prog_14_method_47_code 2 = .ok (.iload_n 1, 1) := by decide +kernel
theorem d122_3 : decode prog_14_method_47_code 3 = .ok (.sipush 390, 3) := by decide +kernel
theorem d122_6 : decode prog_14_method_47_code 6 = .ok (.if_icmp .ge 21, 3) := by decide +kernel
theorem d122_9 : decode prog_14_method_47_code 9 = .ok (.aload_n 0, 1) := by decide +kernel
theorem d122_10 : decode prog_14_method_47_code 10 = .ok (.getfield 113, 3) := by decide +kernel
theorem d122_13 : decode prog_14_method_47_code 13 = .ok (.iload_n 1, 1) := by decide +kernel
theorem d122_14 : decode prog_14_method_47_code 14 = .ok (.aload_n 0, 1) := by decide +kernel
theorem d122_15 : decode prog_14_method_47_code 15 = .ok (.getfield 116, 3) := by decide +kernel
theorem d122_18 : decode prog_14_method_47_code 18 = .ok (.iload_n 1, 1) := by decide +kernel
theorem d122_19 : decode prog_14_method_47_code 19 = .ok (.iaload, 1) := by decide +kernel
theorem d122_20 : decode prog_14_method_47_code 20 = .ok (.iastore, 1) := by decide +kernel
theorem d122_21 : decode prog_14_method_47_code 21 = .ok (.iinc 1 1, 3) := by decide +kernel
theorem d122_24 : decode prog_14_method_47_code 24 = .ok (.goto (-22), 3) := by decide +kernel
theorem d122_27 : decode prog_14_method_47_code 27 = .ok (.return_, 1) := by decide +kernel
noncomputable def T_122 : Nat → Option xF := bn 13 (bn 3 (bn 1 (bl 0 (x_const 2147483648 1)) (bn 2 (bl 1 (y_istore 1 2)) (bl 2 (y_iload 1 3)))) (bn 9 (bn 6 (bl 3 (x_const 2147484038 6)) (bl 6 (y_icmp yc3 27 9))) (bn 10 (bl 9 (y_aload 0 10)) (bl 10 (y_getf 12 1 13))))) (bn 19 (bn 15 (bn 14 (bl 13 (y_iload 1 14)) (bl 14 (y_aload 0 15))) (bn 18 (bl 15 (y_getf 12 0 18)) (bl 18 (y_iload 1 19)))) (bn 21 (bn 20 (bl 19 (y_iald 20)) (bl 20 (y_iast 21))) (bn 24 (bl 21 (y_iinc 1 2147483649 24)) (bl 24 (x_goto 2)))))
set_option maxRecDepth 100000 in
set_option maxHeartbeats 4000000 in
theorem T_122_ok (G : State → Nat → Nat → Prop) : xTree PX G prog_14_method_47_code "CapitalCaseModel" false T_122 := (xT_n (xT_n (xT_n (xT_l (s_iconst d122_0 (by decide +kernel))) (xT_n (xT_l (yS (y_istore_eq _ _) (s_istore_n d122_1))) (xT_l (yS (y_iload_eq _ _) (s_iload_n d122_2))))) (xT_n (xT_n (xT_l (s_sipush d122_3 (by decide +kernel))) (xT_l (yS (y_icmp_eq yc3_eq _ _) (s_icmpge d122_6 (by decide +kernel))))) (xT_n (xT_l (yS (y_aload_eq _ _) (s_aload_n d122_9))) (xT_l (yS (y_getf_eq _ _ _) (s_getf (T := TX12) (N := 70) d122_10 rfl inX12 (by decide) wd_1331)))))) (xT_n (xT_n (xT_n (xT_l (yS (y_iload_eq _ _) (s_iload_n d122_13))) (xT_l (yS (y_aload_eq _ _) (s_aload_n d122_14)))) (xT_n (xT_l (yS (y_getf_eq _ _ _) (s_getf (T := TX12) (N := 70) d122_15 rfl inX12 (by decide) wd_1332))) (xT_l (yS (y_iload_eq _ _) (s_iload_n d122_18))))) (xT_n (xT_n (xT_l (yS (y_iald_eq _) (s_iald d122_19))) (xT_l (yS (y_iast_eq _) (s_iast d122_20)))) (xT_n (xT_l (yS (y_iinc_eq _ _ _) (s_iinc d122_21 (by decide +kernel)))) (xT_l (s_goto d122_24 (by decide +kernel)))))))
set_option maxRecDepth 100000 in
set_option maxHeartbeats 4000000 in
theorem M_122 : xMeth PX 122 (T_122, 2, [(27, 3)]) := ⟨⟨"CapitalCaseModel", "keepsRow", "()V"⟩, prog_14_method_47_code, none, rfl, by decide, fun G => T_122_ok G, xrt_ok (xR_c (Or.inr (Or.inr (Or.inl ⟨rfl, d122_27, rfl⟩))) (xR_n))⟩
theorem d123_0 : decode prog_14_method_100_code 0 = .ok (.aload_n 0, 1) := by decide +kernel
theorem d123_1 : decode prog_14_method_100_code 1 = .ok (.invokevirtual 411, 3) := by decide +kernel
theorem d123_4 : decode prog_14_method_100_code 4 = .ok (.aload_n 0, 1) := by decide +kernel
theorem d123_5 : decode prog_14_method_100_code 5 = .ok (.invokevirtual 436, 3) := by decide +kernel
theorem d123_8 : decode prog_14_method_100_code 8 = .ok (.istore_n 1, 1) := by decide +kernel
theorem d123_9 : decode prog_14_method_100_code 9 = .ok (.iconst 0, 1) := by decide +kernel
theorem d123_10 : decode prog_14_method_100_code 10 = .ok (.istore_n 2, 1) := by decide +kernel
theorem d123_11 : decode prog_14_method_100_code 11 = .ok (.iload_n 2, 1) := by decide +kernel
theorem d123_12 : decode prog_14_method_100_code 12 = .ok (.aload_n 0, 1) := by decide +kernel
theorem d123_13 : decode prog_14_method_100_code 13 = .ok (.getfield 49, 3) := by decide +kernel
theorem d123_16 : decode prog_14_method_100_code 16 = .ok (.aload_n 0, 1) := by decide +kernel
theorem d123_17 : decode prog_14_method_100_code 17 = .ok (.getfield 230, 3) := by decide +kernel
theorem d123_20 : decode prog_14_method_100_code 20 = .ok (.iaload, 1) := by decide +kernel
theorem d123_21 : decode prog_14_method_100_code 21 = .ok (.if_icmp .ge 42, 3) := by decide +kernel
theorem d123_63 : decode prog_14_method_100_code 63 = .ok (.iload_n 1, 1) := by decide +kernel
theorem d123_64 : decode prog_14_method_100_code 64 = .ok (.ireturn, 1) := by decide +kernel
noncomputable def T_123 : Nat → Option xF := bn 11 (bn 5 (bn 1 (bl 0 (y_aload 0 1)) (bn 4 (bl 1 (y_invV 12 101 1 4)) (bl 4 (y_aload 0 5)))) (bn 9 (bn 8 (bl 5 (y_invV 12 128 1 8)) (bl 8 (y_istore 1 9))) (bn 10 (bl 9 (x_const 2147483648 10)) (bl 10 (y_istore 2 11))))) (bn 17 (bn 13 (bn 12 (bl 11 (y_iload 2 12)) (bl 12 (y_aload 0 13))) (bn 16 (bl 13 (y_getf 12 4 16)) (bl 16 (y_aload 0 17)))) (bn 21 (bn 20 (bl 17 (y_getf 12 2 20)) (bl 20 (y_iald 21))) (bn 63 (bl 21 (y_icmp yc3 63 24)) (bl 63 (y_iload 1 64)))))
set_option maxRecDepth 100000 in
set_option maxHeartbeats 4000000 in
theorem T_123_ok (G : State → Nat → Nat → Prop) : xTree PX G prog_14_method_100_code "CapitalCaseModel" false T_123 := (xT_n (xT_n (xT_n (xT_l (yS (y_aload_eq _ _) (s_aload_n d123_0))) (xT_n (xT_l (yS (y_invV_eq _ _ _ _) (s_invV (T := TX12) d123_1 cal_101 rfl wd_1635 wd_1637 wd_73))) (xT_l (yS (y_aload_eq _ _) (s_aload_n d123_4))))) (xT_n (xT_n (xT_l (yS (y_invV_eq _ _ _ _) (s_invV (T := TX12) d123_5 cal_128 rfl wd_1798 wd_1800 wd_100))) (xT_l (yS (y_istore_eq _ _) (s_istore_n d123_8)))) (xT_n (xT_l (s_iconst d123_9 (by decide +kernel))) (xT_l (yS (y_istore_eq _ _) (s_istore_n d123_10)))))) (xT_n (xT_n (xT_n (xT_l (yS (y_iload_eq _ _) (s_iload_n d123_11))) (xT_l (yS (y_aload_eq _ _) (s_aload_n d123_12)))) (xT_n (xT_l (yS (y_getf_eq _ _ _) (s_getf (T := TX12) (N := 70) d123_13 rfl inX12 (by decide) wd_1305))) (xT_l (yS (y_aload_eq _ _) (s_aload_n d123_16))))) (xT_n (xT_n (xT_l (yS (y_getf_eq _ _ _) (s_getf (T := TX12) (N := 70) d123_17 rfl inX12 (by decide) wd_1299))) (xT_l (yS (y_iald_eq _) (s_iald d123_20)))) (xT_n (xT_l (yS (y_icmp_eq yc3_eq _ _) (s_icmpge d123_21 (by decide +kernel)))) (xT_l (yS (y_iload_eq _ _) (s_iload_n d123_63)))))))
set_option maxRecDepth 100000 in
set_option maxHeartbeats 4000000 in
theorem M_123 : xMeth PX 123 (T_123, 3, [(64, 1)]) := ⟨⟨"CapitalCaseModel", "late", "()I"⟩, prog_14_method_100_code, (some .int), rfl, by decide, fun G => T_123_ok G, xrt_ok (xR_c (Or.inl ⟨rfl, d123_64, rfl⟩) (xR_n))⟩
theorem d124_0 : decode prog_14_method_80_code 0 = .ok (.aload_n 0, 1) := by decide +kernel
theorem d124_1 : decode prog_14_method_80_code 1 = .ok (.iload_n 1, 1) := by decide +kernel
theorem d124_2 : decode prog_14_method_80_code 2 = .ok (.iload_n 2, 1) := by decide +kernel
theorem d124_3 : decode prog_14_method_80_code 3 = .ok (.iload_n 3, 1) := by decide +kernel
theorem d124_4 : decode prog_14_method_80_code 4 = .ok (.invokevirtual 427, 3) := by decide +kernel
theorem d124_7 : decode prog_14_method_80_code 7 = .ok (.ifCond .ne 5, 3) := by decide +kernel
theorem d124_10 : decode prog_14_method_80_code 10 = .ok (.iconst 0, 1) := by decide +kernel
theorem d124_11 : decode prog_14_method_80_code 11 = .ok (.ireturn, 1) := by decide +kernel
noncomputable def T_124 : Nat → Option xF := bn 3 (bn 1 (bl 0 (y_aload 0 1)) (bn 2 (bl 1 (y_iload 1 2)) (bl 2 (y_iload 2 3)))) (bn 7 (bn 4 (bl 3 (y_iload 3 4)) (bl 4 (y_invV 12 91 4 7))) (bn 10 (bl 7 (y_if yc1 12 10)) (bl 10 (x_const 2147483648 11))))
set_option maxRecDepth 100000 in
set_option maxHeartbeats 4000000 in
theorem T_124_ok (G : State → Nat → Nat → Prop) : xTree PX G prog_14_method_80_code "CapitalCaseModel" false T_124 := (xT_n (xT_n (xT_l (yS (y_aload_eq _ _) (s_aload_n d124_0))) (xT_n (xT_l (yS (y_iload_eq _ _) (s_iload_n d124_1))) (xT_l (yS (y_iload_eq _ _) (s_iload_n d124_2))))) (xT_n (xT_n (xT_l (yS (y_iload_eq _ _) (s_iload_n d124_3))) (xT_l (yS (y_invV_eq _ _ _ _) (s_invV (T := TX12) d124_4 cal_91 rfl wd_1739 wd_1741 wd_92)))) (xT_n (xT_l (yS (y_if_eq yc1_eq _ _) (s_ifne d124_7 (by decide +kernel)))) (xT_l (s_iconst d124_10 (by decide +kernel))))))
set_option maxRecDepth 100000 in
set_option maxHeartbeats 4000000 in
theorem M_124 : xMeth PX 124 (T_124, 4, [(11, 2)]) := ⟨⟨"CapitalCaseModel", "lend", "(III)Z"⟩, prog_14_method_80_code, (some .boolean), rfl, by decide, fun G => T_124_ok G, xrt_ok (xR_c (Or.inr (Or.inl ⟨rfl, d124_11, rfl⟩)) (xR_n))⟩
theorem d125_0 : decode prog_14_method_94_code 0 = .ok (.aload_n 0, 1) := by decide +kernel
theorem d125_1 : decode prog_14_method_94_code 1 = .ok (.iload_n 1, 1) := by decide +kernel
theorem d125_2 : decode prog_14_method_94_code 2 = .ok (.invokevirtual 405, 3) := by decide +kernel
theorem d125_5 : decode prog_14_method_94_code 5 = .ok (.ifCond .eq 11, 3) := by decide +kernel
theorem d125_16 : decode prog_14_method_94_code 16 = .ok (.iconst (-1), 1) := by decide +kernel
theorem d125_17 : decode prog_14_method_94_code 17 = .ok (.ireturn, 1) := by decide +kernel
noncomputable def T_125 : Nat → Option xF := bn 2 (bn 1 (bl 0 (y_aload 0 1)) (bl 1 (y_iload 1 2))) (bn 5 (bl 2 (y_invV 12 117 2 5)) (bn 16 (bl 5 (y_if yc0 16 8)) (bl 16 (x_const 2147483647 17))))
set_option maxRecDepth 100000 in
set_option maxHeartbeats 4000000 in
theorem T_125_ok (G : State → Nat → Nat → Prop) : xTree PX G prog_14_method_94_code "CapitalCaseModel" false T_125 := (xT_n (xT_n (xT_l (yS (y_aload_eq _ _) (s_aload_n d125_0))) (xT_l (yS (y_iload_eq _ _) (s_iload_n d125_1)))) (xT_n (xT_l (yS (y_invV_eq _ _ _ _) (s_invV (T := TX12) d125_2 cal_117 rfl wd_1625 wd_1627 wd_72))) (xT_n (xT_l (yS (y_if_eq yc0_eq _ _) (s_ifeq d125_5 (by decide +kernel)))) (xT_l (s_iconst d125_16 (by decide +kernel))))))
set_option maxRecDepth 100000 in
set_option maxHeartbeats 4000000 in
theorem M_125 : xMeth PX 125 (T_125, 8, [(17, 1)]) := ⟨⟨"CapitalCaseModel", "loans", "(II)I"⟩, prog_14_method_94_code, (some .int), rfl, by decide, fun G => T_125_ok G, xrt_ok (xR_c (Or.inl ⟨rfl, d125_17, rfl⟩) (xR_n))⟩
theorem d126_0 : decode prog_14_method_50_code 0 = .ok (.aload_n 0, 1) := by decide +kernel
theorem d126_1 : decode prog_14_method_50_code 1 = .ok (.getfield 328, 3) := by decide +kernel
theorem d126_4 : decode prog_14_method_50_code 4 = .ok (.bipush 121, 2) := by decide +kernel
theorem d126_6 : decode prog_14_method_50_code 6 = .ok (.invokestatic 338, 3) := by decide +kernel
theorem d126_9 : decode prog_14_method_50_code 9 = .ok (.iload_n 1, 1) := by decide +kernel
theorem d126_10 : decode prog_14_method_50_code 10 = .ok (.invokestatic 338, 3) := by decide +kernel
theorem d126_13 : decode prog_14_method_50_code 13 = .ok (.iconst 1, 1) := by decide +kernel
theorem d126_14 : decode prog_14_method_50_code 14 = .ok (.iushr, 1) := by decide +kernel
theorem d126_15 : decode prog_14_method_50_code 15 = .ok (.iload_n 2, 1) := by decide +kernel
theorem d126_16 : decode prog_14_method_50_code 16 = .ok (.irem, 1) := by decide +kernel
theorem d126_17 : decode prog_14_method_50_code 17 = .ok (.ireturn, 1) := by decide +kernel
noncomputable def T_126 : Nat → Option xF := bn 10 (bn 4 (bn 1 (bl 0 (y_aload 0 1)) (bl 1 (y_getf 12 6 4))) (bn 6 (bl 4 (x_const 2147483769 6)) (bn 9 (bl 6 (y_inv 127 2 9)) (bl 9 (y_iload 1 10))))) (bn 14 (bn 13 (bl 10 (y_inv 127 2 13)) (bl 13 (x_const 2147483649 14))) (bn 15 (bl 14 (y_bin (xfg (fun x y => (x.toUInt32 >>> (y.toUInt32 &&& Int32.toUInt32 31)).toInt32)) 15)) (bn 16 (bl 15 (y_iload 2 16)) (bl 16 (x_rem 17)))))
set_option maxRecDepth 100000 in
set_option maxHeartbeats 4000000 in
theorem T_126_ok (G : State → Nat → Nat → Prop) : xTree PX G prog_14_method_50_code "CapitalCaseModel" false T_126 := (xT_n (xT_n (xT_n (xT_l (yS (y_aload_eq _ _) (s_aload_n d126_0))) (xT_l (yS (y_getf_eq _ _ _) (s_getf (T := TX12) (N := 70) d126_1 rfl inX12 (by decide) wd_1333)))) (xT_n (xT_l (s_bipush d126_4 (by decide +kernel))) (xT_n (xT_l (yS (y_inv_eq _ _ _) (s_invS d126_6 cal_127 wd_1774 wd_1775))) (xT_l (yS (y_iload_eq _ _) (s_iload_n d126_9)))))) (xT_n (xT_n (xT_l (yS (y_inv_eq _ _ _) (s_invS d126_10 cal_127 wd_1774 wd_1775))) (xT_l (s_iconst d126_13 (by decide +kernel)))) (xT_n (xT_l (yS (y_bin_eq _ _) (s_iushr d126_14))) (xT_n (xT_l (yS (y_iload_eq _ _) (s_iload_n d126_15))) (xT_l (s_irem d126_16))))))
set_option maxRecDepth 100000 in
set_option maxHeartbeats 4000000 in
theorem M_126 : xMeth PX 126 (T_126, 3, [(17, 1)]) := ⟨⟨"CapitalCaseModel", "lotOf", "(II)I"⟩, prog_14_method_50_code, (some .int), rfl, by decide, fun G => T_126_ok G, xrt_ok (xR_c (Or.inl ⟨rfl, d126_17, rfl⟩) (xR_n))⟩
theorem d127_0 : decode prog_14_method_49_code 0 = .ok (.iload_n 0, 1) := by decide +kernel
theorem d127_1 : decode prog_14_method_49_code 1 = .ok (.iload_n 1, 1) := by decide +kernel
theorem d127_2 : decode prog_14_method_49_code 2 = .ok (.ixor, 1) := by decide +kernel
theorem d127_3 : decode prog_14_method_49_code 3 = .ok (.ldc_w 337, 3) := by decide +kernel
theorem d127_6 : decode prog_14_method_49_code 6 = .ok (.imul, 1) := by decide +kernel
theorem d127_7 : decode prog_14_method_49_code 7 = .ok (.sipush 12345, 3) := by decide +kernel
theorem d127_10 : decode prog_14_method_49_code 10 = .ok (.iadd, 1) := by decide +kernel
theorem d127_11 : decode prog_14_method_49_code 11 = .ok (.istore_n 2, 1) := by decide +kernel
theorem d127_12 : decode prog_14_method_49_code 12 = .ok (.iload_n 2, 1) := by decide +kernel
theorem d127_13 : decode prog_14_method_49_code 13 = .ok (.iload_n 2, 1) := by decide +kernel
theorem d127_14 : decode prog_14_method_49_code 14 = .ok (.bipush 15, 2) := by decide +kernel
theorem d127_16 : decode prog_14_method_49_code 16 = .ok (.iushr, 1) := by decide +kernel
theorem d127_17 : decode prog_14_method_49_code 17 = .ok (.ixor, 1) := by decide +kernel
theorem d127_18 : decode prog_14_method_49_code 18 = .ok (.ireturn, 1) := by decide +kernel
noncomputable def T_127 : Nat → Option xF := bn 10 (bn 3 (bn 1 (bl 0 (y_iload 0 1)) (bn 2 (bl 1 (y_iload 1 2)) (bl 2 (y_bin (xfg (fun x y => x ^^^ y)) 3)))) (bn 6 (bl 3 (x_const 3250998893 6)) (bn 7 (bl 6 (y_bin (xfg (fun x y => x * y)) 7)) (bl 7 (x_const 2147495993 10))))) (bn 13 (bn 11 (bl 10 (y_bin yadd 11)) (bn 12 (bl 11 (y_istore 2 12)) (bl 12 (y_iload 2 13)))) (bn 16 (bn 14 (bl 13 (y_iload 2 14)) (bl 14 (x_const 2147483663 16))) (bn 17 (bl 16 (y_bin (xfg (fun x y => (x.toUInt32 >>> (y.toUInt32 &&& Int32.toUInt32 31)).toInt32)) 17)) (bl 17 (y_bin (xfg (fun x y => x ^^^ y)) 18)))))
set_option maxRecDepth 100000 in
set_option maxHeartbeats 4000000 in
theorem T_127_ok (G : State → Nat → Nat → Prop) : xTree PX G prog_14_method_49_code "CapitalCaseModel" false T_127 := (xT_n (xT_n (xT_n (xT_l (yS (y_iload_eq _ _) (s_iload_n d127_0))) (xT_n (xT_l (yS (y_iload_eq _ _) (s_iload_n d127_1))) (xT_l (yS (y_bin_eq _ _) (s_ixor d127_2))))) (xT_n (xT_l (s_ldcw d127_3 wd_1777 (by decide +kernel))) (xT_n (xT_l (yS (y_bin_eq _ _) (s_imul d127_6))) (xT_l (s_sipush d127_7 (by decide +kernel)))))) (xT_n (xT_n (xT_l (yS (y_bin_eq _ _) (s_iadd d127_10))) (xT_n (xT_l (yS (y_istore_eq _ _) (s_istore_n d127_11))) (xT_l (yS (y_iload_eq _ _) (s_iload_n d127_12))))) (xT_n (xT_n (xT_l (yS (y_iload_eq _ _) (s_iload_n d127_13))) (xT_l (s_bipush d127_14 (by decide +kernel)))) (xT_n (xT_l (yS (y_bin_eq _ _) (s_iushr d127_16))) (xT_l (yS (y_bin_eq _ _) (s_ixor d127_17)))))))
set_option maxRecDepth 100000 in
set_option maxHeartbeats 4000000 in
theorem M_127 : xMeth PX 127 (T_127, 3, [(18, 1)]) := ⟨⟨"CapitalCaseModel", "mixed", "(II)I"⟩, prog_14_method_49_code, (some .int), rfl, by decide, fun G => T_127_ok G, xrt_ok (xR_c (Or.inl ⟨rfl, d127_18, rfl⟩) (xR_n))⟩
theorem d128_0 : decode prog_14_method_67_code 0 = .ok (.iconst 0, 1) := by decide +kernel
theorem d128_1 : decode prog_14_method_67_code 1 = .ok (.istore_n 1, 1) := by decide +kernel
theorem d128_2 : decode prog_14_method_67_code 2 = .ok (.iconst 0, 1) := by decide +kernel
theorem d128_3 : decode prog_14_method_67_code 3 = .ok (.istore_n 2, 1) := by decide +kernel
theorem d128_4 : decode prog_14_method_67_code 4 = .ok (.iload_n 2, 1) := by decide +kernel
theorem d128_5 : decode prog_14_method_67_code 5 = .ok (.aload_n 0, 1) := by decide +kernel
theorem d128_6 : decode prog_14_method_67_code 6 = .ok (.getfield 49, 3) := by decide +kernel
theorem d128_9 : decode prog_14_method_67_code 9 = .ok (.aload_n 0, 1) := by decide +kernel
theorem d128_10 : decode prog_14_method_67_code 10 = .ok (.getfield 230, 3) := by decide +kernel
theorem d128_13 : decode prog_14_method_67_code 13 = .ok (.iaload, 1) := by decide +kernel
theorem d128_14 : decode prog_14_method_67_code 14 = .ok (.if_icmp .ge 23, 3) := by decide +kernel
theorem d128_37 : decode prog_14_method_67_code 37 = .ok (.iload_n 1, 1) := by decide +kernel
theorem d128_38 : decode prog_14_method_67_code 38 = .ok (.ireturn, 1) := by decide +kernel
noncomputable def T_128 : Nat → Option xF := bn 6 (bn 3 (bn 1 (bl 0 (x_const 2147483648 1)) (bn 2 (bl 1 (y_istore 1 2)) (bl 2 (x_const 2147483648 3)))) (bn 4 (bl 3 (y_istore 2 4)) (bn 5 (bl 4 (y_iload 2 5)) (bl 5 (y_aload 0 6))))) (bn 13 (bn 9 (bl 6 (y_getf 12 4 9)) (bn 10 (bl 9 (y_aload 0 10)) (bl 10 (y_getf 12 2 13)))) (bn 14 (bl 13 (y_iald 14)) (bn 37 (bl 14 (y_icmp yc3 37 17)) (bl 37 (y_iload 1 38)))))
set_option maxRecDepth 100000 in
set_option maxHeartbeats 4000000 in
theorem T_128_ok (G : State → Nat → Nat → Prop) : xTree PX G prog_14_method_67_code "CapitalCaseModel" false T_128 := (xT_n (xT_n (xT_n (xT_l (s_iconst d128_0 (by decide +kernel))) (xT_n (xT_l (yS (y_istore_eq _ _) (s_istore_n d128_1))) (xT_l (s_iconst d128_2 (by decide +kernel))))) (xT_n (xT_l (yS (y_istore_eq _ _) (s_istore_n d128_3))) (xT_n (xT_l (yS (y_iload_eq _ _) (s_iload_n d128_4))) (xT_l (yS (y_aload_eq _ _) (s_aload_n d128_5)))))) (xT_n (xT_n (xT_l (yS (y_getf_eq _ _ _) (s_getf (T := TX12) (N := 70) d128_6 rfl inX12 (by decide) wd_1305))) (xT_n (xT_l (yS (y_aload_eq _ _) (s_aload_n d128_9))) (xT_l (yS (y_getf_eq _ _ _) (s_getf (T := TX12) (N := 70) d128_10 rfl inX12 (by decide) wd_1299))))) (xT_n (xT_l (yS (y_iald_eq _) (s_iald d128_13))) (xT_n (xT_l (yS (y_icmp_eq yc3_eq _ _) (s_icmpge d128_14 (by decide +kernel)))) (xT_l (yS (y_iload_eq _ _) (s_iload_n d128_37)))))))
set_option maxRecDepth 100000 in
set_option maxHeartbeats 4000000 in
theorem M_128 : xMeth PX 128 (T_128, 3, [(38, 1)]) := ⟨⟨"CapitalCaseModel", "openBits", "()I"⟩, prog_14_method_67_code, (some .int), rfl, by decide, fun G => T_128_ok G, xrt_ok (xR_c (Or.inl ⟨rfl, d128_38, rfl⟩) (xR_n))⟩
theorem d129_0 : decode prog_14_method_104_code 0 = .ok (.iload_n 1, 1) := by decide +kernel
theorem d129_1 : decode prog_14_method_104_code 1 = .ok (.invokestatic 430, 3) := by decide +kernel
theorem d129_4 : decode prog_14_method_104_code 4 = .ok (.ifCond .ne 5, 3) := by decide +kernel
theorem d129_7 : decode prog_14_method_104_code 7 = .ok (.iconst (-1), 1) := by decide +kernel
theorem d129_8 : decode prog_14_method_104_code 8 = .ok (.ireturn, 1) := by decide +kernel
theorem d129_9 : decode prog_14_method_104_code 9 = .ok (.aload_n 0, 1) := by decide +kernel
theorem d129_10 : decode prog_14_method_104_code 10 = .ok (.invokevirtual 411, 3) := by decide +kernel
theorem d129_13 : decode prog_14_method_104_code 13 = .ok (.aload_n 0, 1) := by decide +kernel
theorem d129_14 : decode prog_14_method_104_code 14 = .ok (.iload_n 1, 1) := by decide +kernel
theorem d129_15 : decode prog_14_method_104_code 15 = .ok (.invokevirtual 433, 3) := by decide +kernel
theorem d129_18 : decode prog_14_method_104_code 18 = .ok (.aload_n 0, 1) := by decide +kernel
theorem d129_19 : decode prog_14_method_104_code 19 = .ok (.getfield 116, 3) := by decide +kernel
theorem d129_22 : decode prog_14_method_104_code 22 = .ok (.sipush 387, 3) := by decide +kernel
theorem d129_25 : decode prog_14_method_104_code 25 = .ok (.iaload, 1) := by decide +kernel
theorem d129_26 : decode prog_14_method_104_code 26 = .ok (.aload_n 0, 1) := by decide +kernel
theorem d129_27 : decode prog_14_method_104_code 27 = .ok (.getfield 113, 3) := by decide +kernel
theorem d129_30 : decode prog_14_method_104_code 30 = .ok (.sipush 387, 3) := by decide +kernel
theorem d129_33 : decode prog_14_method_104_code 33 = .ok (.iaload, 1) := by decide +kernel
theorem d129_34 : decode prog_14_method_104_code 34 = .ok (.isub, 1) := by decide +kernel
theorem d129_35 : decode prog_14_method_104_code 35 = .ok (.ireturn, 1) := by decide +kernel
noncomputable def T_129 : Nat → Option xF := bn 18 (bn 9 (bn 4 (bn 1 (bl 0 (y_iload 1 1)) (bl 1 (y_inv 118 1 4))) (bn 7 (bl 4 (y_if yc1 9 7)) (bl 7 (x_const 2147483647 8)))) (bn 13 (bn 10 (bl 9 (y_aload 0 10)) (bl 10 (y_invV 12 101 1 13))) (bn 14 (bl 13 (y_aload 0 14)) (bn 15 (bl 14 (y_iload 1 15)) (bl 15 (y_invV 12 112 2 18)))))) (bn 26 (bn 22 (bn 19 (bl 18 (y_aload 0 19)) (bl 19 (y_getf 12 0 22))) (bn 25 (bl 22 (x_const 2147484035 25)) (bl 25 (y_iald 26)))) (bn 30 (bn 27 (bl 26 (y_aload 0 27)) (bl 27 (y_getf 12 1 30))) (bn 33 (bl 30 (x_const 2147484035 33)) (bn 34 (bl 33 (y_iald 34)) (bl 34 (y_bin ysub 35))))))
set_option maxRecDepth 100000 in
set_option maxHeartbeats 4000000 in
theorem T_129_ok (G : State → Nat → Nat → Prop) : xTree PX G prog_14_method_104_code "CapitalCaseModel" false T_129 := (xT_n (xT_n (xT_n (xT_n (xT_l (yS (y_iload_eq _ _) (s_iload_n d129_0))) (xT_l (yS (y_inv_eq _ _ _) (s_invS d129_1 cal_118 wd_1751 wd_1752)))) (xT_n (xT_l (yS (y_if_eq yc1_eq _ _) (s_ifne d129_4 (by decide +kernel)))) (xT_l (s_iconst d129_7 (by decide +kernel))))) (xT_n (xT_n (xT_l (yS (y_aload_eq _ _) (s_aload_n d129_9))) (xT_l (yS (y_invV_eq _ _ _ _) (s_invV (T := TX12) d129_10 cal_101 rfl wd_1635 wd_1637 wd_73)))) (xT_n (xT_l (yS (y_aload_eq _ _) (s_aload_n d129_13))) (xT_n (xT_l (yS (y_iload_eq _ _) (s_iload_n d129_14))) (xT_l (yS (y_invV_eq _ _ _ _) (s_invV (T := TX12) d129_15 cal_112 rfl wd_1754 wd_1756 wd_93))))))) (xT_n (xT_n (xT_n (xT_l (yS (y_aload_eq _ _) (s_aload_n d129_18))) (xT_l (yS (y_getf_eq _ _ _) (s_getf (T := TX12) (N := 70) d129_19 rfl inX12 (by decide) wd_1332)))) (xT_n (xT_l (s_sipush d129_22 (by decide +kernel))) (xT_l (yS (y_iald_eq _) (s_iald d129_25))))) (xT_n (xT_n (xT_l (yS (y_aload_eq _ _) (s_aload_n d129_26))) (xT_l (yS (y_getf_eq _ _ _) (s_getf (T := TX12) (N := 70) d129_27 rfl inX12 (by decide) wd_1331)))) (xT_n (xT_l (s_sipush d129_30 (by decide +kernel))) (xT_n (xT_l (yS (y_iald_eq _) (s_iald d129_33))) (xT_l (yS (y_bin_eq _ _) (s_isub d129_34))))))))
set_option maxRecDepth 100000 in
set_option maxHeartbeats 4000000 in
theorem M_129 : xMeth PX 129 (T_129, 2, [(8, 1), (35, 1)]) := ⟨⟨"CapitalCaseModel", "paidIn", "(I)I"⟩, prog_14_method_104_code, (some .int), rfl, by decide, fun G => T_129_ok G, xrt_ok (xR_c (Or.inl ⟨rfl, d129_8, rfl⟩) (xR_c (Or.inl ⟨rfl, d129_35, rfl⟩) (xR_n)))⟩
theorem d130_0 : decode prog_14_method_90_code 0 = .ok (.iload_n 1, 1) := by decide +kernel
theorem d130_1 : decode prog_14_method_90_code 1 = .ok (.iconst 0, 1) := by decide +kernel
theorem d130_2 : decode prog_14_method_90_code 2 = .ok (.iconst 1, 1) := by decide +kernel
theorem d130_3 : decode prog_14_method_90_code 3 = .ok (.invokestatic 324, 3) := by decide +kernel
theorem d130_6 : decode prog_14_method_90_code 6 = .ok (.ifCond .ne 5, 3) := by decide +kernel
theorem d130_9 : decode prog_14_method_90_code 9 = .ok (.iconst (-1), 1) := by decide +kernel
theorem d130_10 : decode prog_14_method_90_code 10 = .ok (.ireturn, 1) := by decide +kernel
theorem d130_11 : decode prog_14_method_90_code 11 = .ok (.bipush (-2), 2) := by decide +kernel
theorem d130_13 : decode prog_14_method_90_code 13 = .ok (.istore_n 2, 1) := by decide +kernel
theorem d130_14 : decode prog_14_method_90_code 14 = .ok (.bipush (-2), 2) := by decide +kernel
theorem d130_16 : decode prog_14_method_90_code 16 = .ok (.istore_n 3, 1) := by decide +kernel
theorem d130_17 : decode prog_14_method_90_code 17 = .ok (.iconst 0, 1) := by decide +kernel
theorem d130_18 : decode prog_14_method_90_code 18 = .ok (.istore 4, 2) := by decide +kernel
theorem d130_20 : decode prog_14_method_90_code 20 = .ok (.iload 4, 2) := by decide +kernel
theorem d130_22 : decode prog_14_method_90_code 22 = .ok (.aload_n 0, 1) := by decide +kernel
theorem d130_23 : decode prog_14_method_90_code 23 = .ok (.getfield 43, 3) := by decide +kernel
theorem d130_26 : decode prog_14_method_90_code 26 = .ok (.aload_n 0, 1) := by decide +kernel
theorem d130_27 : decode prog_14_method_90_code 27 = .ok (.getfield 230, 3) := by decide +kernel
theorem d130_30 : decode prog_14_method_90_code 30 = .ok (.iaload, 1) := by decide +kernel
theorem d130_31 : decode prog_14_method_90_code 31 = .ok (.if_icmp .ge 46, 3) := by decide +kernel
theorem d130_77 : decode prog_14_method_90_code 77 = .ok (.iload_n 1, 1) := by decide +kernel
theorem d130_78 : decode prog_14_method_90_code 78 = .ok (.ifCond .ne 7, 3) := by decide +kernel
theorem d130_81 : decode prog_14_method_90_code 81 = .ok (.iload_n 2, 1) := by decide +kernel
theorem d130_82 : decode prog_14_method_90_code 82 = .ok (.goto 4, 3) := by decide +kernel
theorem d130_85 : decode prog_14_method_90_code 85 = .ok (.iload_n 3, 1) := by decide +kernel
theorem d130_86 : decode prog_14_method_90_code 86 = .ok (.ireturn, 1) := by decide +kernel
noncomputable def T_130 : Nat → Option xF := bn 20 (bn 11 (bn 3 (bn 1 (bl 0 (y_iload 1 1)) (bn 2 (bl 1 (x_const 2147483648 2)) (bl 2 (x_const 2147483649 3)))) (bn 6 (bl 3 (y_inv 115 3 6)) (bn 9 (bl 6 (y_if yc1 11 9)) (bl 9 (x_const 2147483647 10))))) (bn 16 (bn 13 (bl 11 (x_const 2147483646 13)) (bn 14 (bl 13 (y_istore 2 14)) (bl 14 (x_const 2147483646 16)))) (bn 17 (bl 16 (y_istore 3 17)) (bn 18 (bl 17 (x_const 2147483648 18)) (bl 18 (y_istore 4 20)))))) (bn 31 (bn 26 (bn 22 (bl 20 (y_iload 4 22)) (bn 23 (bl 22 (y_aload 0 23)) (bl 23 (y_getf 12 3 26)))) (bn 27 (bl 26 (y_aload 0 27)) (bn 30 (bl 27 (y_getf 12 2 30)) (bl 30 (y_iald 31))))) (bn 81 (bn 77 (bl 31 (y_icmp yc3 77 34)) (bn 78 (bl 77 (y_iload 1 78)) (bl 78 (y_if yc1 85 81)))) (bn 82 (bl 81 (y_iload 2 82)) (bn 85 (bl 82 (x_goto 86)) (bl 85 (y_iload 3 86))))))
set_option maxRecDepth 100000 in
set_option maxHeartbeats 4000000 in
theorem T_130_ok (G : State → Nat → Nat → Prop) : xTree PX G prog_14_method_90_code "CapitalCaseModel" false T_130 := (xT_n (xT_n (xT_n (xT_n (xT_l (yS (y_iload_eq _ _) (s_iload_n d130_0))) (xT_n (xT_l (s_iconst d130_1 (by decide +kernel))) (xT_l (s_iconst d130_2 (by decide +kernel))))) (xT_n (xT_l (yS (y_inv_eq _ _ _) (s_invS d130_3 cal_115 wd_1629 wd_1630))) (xT_n (xT_l (yS (y_if_eq yc1_eq _ _) (s_ifne d130_6 (by decide +kernel)))) (xT_l (s_iconst d130_9 (by decide +kernel)))))) (xT_n (xT_n (xT_l (s_bipush d130_11 (by decide +kernel))) (xT_n (xT_l (yS (y_istore_eq _ _) (s_istore_n d130_13))) (xT_l (s_bipush d130_14 (by decide +kernel))))) (xT_n (xT_l (yS (y_istore_eq _ _) (s_istore_n d130_16))) (xT_n (xT_l (s_iconst d130_17 (by decide +kernel))) (xT_l (yS (y_istore_eq _ _) (s_istore d130_18))))))) (xT_n (xT_n (xT_n (xT_l (yS (y_iload_eq _ _) (s_iload d130_20))) (xT_n (xT_l (yS (y_aload_eq _ _) (s_aload_n d130_22))) (xT_l (yS (y_getf_eq _ _ _) (s_getf (T := TX12) (N := 70) d130_23 rfl inX12 (by decide) wd_1303))))) (xT_n (xT_l (yS (y_aload_eq _ _) (s_aload_n d130_26))) (xT_n (xT_l (yS (y_getf_eq _ _ _) (s_getf (T := TX12) (N := 70) d130_27 rfl inX12 (by decide) wd_1299))) (xT_l (yS (y_iald_eq _) (s_iald d130_30)))))) (xT_n (xT_n (xT_l (yS (y_icmp_eq yc3_eq _ _) (s_icmpge d130_31 (by decide +kernel)))) (xT_n (xT_l (yS (y_iload_eq _ _) (s_iload_n d130_77))) (xT_l (yS (y_if_eq yc1_eq _ _) (s_ifne d130_78 (by decide +kernel)))))) (xT_n (xT_l (yS (y_iload_eq _ _) (s_iload_n d130_81))) (xT_n (xT_l (s_goto d130_82 (by decide +kernel))) (xT_l (yS (y_iload_eq _ _) (s_iload_n d130_85))))))))
set_option maxRecDepth 100000 in
set_option maxHeartbeats 4000000 in
theorem M_130 : xMeth PX 130 (T_130, 5, [(10, 1), (86, 1)]) := ⟨⟨"CapitalCaseModel", "pillar", "(I)I"⟩, prog_14_method_90_code, (some .int), rfl, by decide, fun G => T_130_ok G, xrt_ok (xR_c (Or.inl ⟨rfl, d130_10, rfl⟩) (xR_c (Or.inl ⟨rfl, d130_86, rfl⟩) (xR_n)))⟩
theorem d131_0 : decode prog_14_method_21_code 0 = .ok (.aload_n 0, 1) := by decide +kernel
theorem d131_1 : decode prog_14_method_21_code 1 = .ok (.getfield 37, 3) := by decide +kernel
theorem d131_4 : decode prog_14_method_21_code 4 = .ok (.ireturn, 1) := by decide +kernel
noncomputable def T_131 : Nat → Option xF := bn 1 (bl 0 (y_aload 0 1)) (bl 1 (y_getf 12 31 4))
set_option maxRecDepth 100000 in
set_option maxHeartbeats 4000000 in
theorem T_131_ok (G : State → Nat → Nat → Prop) : xTree PX G prog_14_method_21_code "CapitalCaseModel" false T_131 := (xT_n (xT_l (yS (y_aload_eq _ _) (s_aload_n d131_0))) (xT_l (yS (y_getf_eq _ _ _) (s_getf (T := TX12) (N := 70) d131_1 rfl inX12 (by decide) wd_1298))))
set_option maxRecDepth 100000 in
set_option maxHeartbeats 4000000 in
theorem M_131 : xMeth PX 131 (T_131, 1, [(4, 1)]) := ⟨⟨"CapitalCaseModel", "place", "()I"⟩, prog_14_method_21_code, (some .int), rfl, by decide, fun G => T_131_ok G, xrt_ok (xR_c (Or.inl ⟨rfl, d131_4, rfl⟩) (xR_n))⟩
theorem d132_0 : decode prog_14_method_19_code 0 = .ok (.aload_n 0, 1) := by decide +kernel
theorem d132_1 : decode prog_14_method_19_code 1 = .ok (.getfield 43, 3) := by decide +kernel
theorem d132_4 : decode prog_14_method_19_code 4 = .ok (.iload_n 1, 1) := by decide +kernel
theorem d132_5 : decode prog_14_method_19_code 5 = .ok (.iconst 0, 1) := by decide +kernel
theorem d132_6 : decode prog_14_method_19_code 6 = .ok (.iastore, 1) := by decide +kernel
theorem d132_7 : decode prog_14_method_19_code 7 = .ok (.aload_n 0, 1) := by decide +kernel
theorem d132_8 : decode prog_14_method_19_code 8 = .ok (.getfield 49, 3) := by decide +kernel
theorem d132_11 : decode prog_14_method_19_code 11 = .ok (.iload_n 1, 1) := by decide +kernel
theorem d132_12 : decode prog_14_method_19_code 12 = .ok (.iconst 0, 1) := by decide +kernel
theorem d132_13 : decode prog_14_method_19_code 13 = .ok (.iastore, 1) := by decide +kernel
theorem d132_14 : decode prog_14_method_19_code 14 = .ok (.aload_n 0, 1) := by decide +kernel
theorem d132_15 : decode prog_14_method_19_code 15 = .ok (.getfield 64, 3) := by decide +kernel
theorem d132_18 : decode prog_14_method_19_code 18 = .ok (.iload_n 1, 1) := by decide +kernel
theorem d132_19 : decode prog_14_method_19_code 19 = .ok (.bipush 20, 2) := by decide +kernel
theorem d132_21 : decode prog_14_method_19_code 21 = .ok (.iastore, 1) := by decide +kernel
theorem d132_22 : decode prog_14_method_19_code 22 = .ok (.aload_n 0, 1) := by decide +kernel
theorem d132_23 : decode prog_14_method_19_code 23 = .ok (.getfield 67, 3) := by decide +kernel
theorem d132_26 : decode prog_14_method_19_code 26 = .ok (.iload_n 1, 1) := by decide +kernel
theorem d132_27 : decode prog_14_method_19_code 27 = .ok (.iconst 0, 1) := by decide +kernel
theorem d132_28 : decode prog_14_method_19_code 28 = .ok (.iastore, 1) := by decide +kernel
theorem d132_29 : decode prog_14_method_19_code 29 = .ok (.aload_n 0, 1) := by decide +kernel
theorem d132_30 : decode prog_14_method_19_code 30 = .ok (.getfield 70, 3) := by decide +kernel
theorem d132_33 : decode prog_14_method_19_code 33 = .ok (.iload_n 1, 1) := by decide +kernel
theorem d132_34 : decode prog_14_method_19_code 34 = .ok (.iconst 0, 1) := by decide +kernel
theorem d132_35 : decode prog_14_method_19_code 35 = .ok (.iastore, 1) := by decide +kernel
theorem d132_36 : decode prog_14_method_19_code 36 = .ok (.iconst 0, 1) := by decide +kernel
theorem d132_37 : decode prog_14_method_19_code 37 = .ok (.istore_n 2, 1) := by decide +kernel
theorem d132_38 : decode prog_14_method_19_code 38 = .ok (.iload_n 2, 1) := by decide +kernel
theorem d132_39 : decode prog_14_method_19_code 39 = .ok (.iconst 4, 1) := by decide +kernel
theorem d132_40 : decode prog_14_method_19_code 40 = .ok (.if_icmp .ge 31, 3) := by decide +kernel
theorem d132_43 : decode prog_14_method_19_code 43 = .ok (.aload_n 0, 1) := by decide +kernel
theorem d132_44 : decode prog_14_method_19_code 44 = .ok (.getfield 73, 3) := by decide +kernel
theorem d132_47 : decode prog_14_method_19_code 47 = .ok (.iconst 4, 1) := by decide +kernel
theorem d132_48 : decode prog_14_method_19_code 48 = .ok (.iload_n 1, 1) := by decide +kernel
theorem d132_49 : decode prog_14_method_19_code 49 = .ok (.imul, 1) := by decide +kernel
theorem d132_50 : decode prog_14_method_19_code 50 = .ok (.iload_n 2, 1) := by decide +kernel
theorem d132_51 : decode prog_14_method_19_code 51 = .ok (.iadd, 1) := by decide +kernel
theorem d132_52 : decode prog_14_method_19_code 52 = .ok (.iconst 0, 1) := by decide +kernel
theorem d132_53 : decode prog_14_method_19_code 53 = .ok (.iastore, 1) := by decide +kernel
theorem d132_54 : decode prog_14_method_19_code 54 = .ok (.aload_n 0, 1) := by decide +kernel
theorem d132_55 : decode prog_14_method_19_code 55 = .ok (.getfield 76, 3) := by decide +kernel
theorem d132_58 : decode prog_14_method_19_code 58 = .ok (.iconst 4, 1) := by decide +kernel
theorem d132_59 : decode prog_14_method_19_code 59 = .ok (.iload_n 1, 1) := by decide +kernel
theorem d132_60 : decode prog_14_method_19_code 60 = .ok (.imul, 1) := by decide +kernel
theorem d132_61 : decode prog_14_method_19_code 61 = .ok (.iload_n 2, 1) := by decide +kernel
theorem d132_62 : decode prog_14_method_19_code 62 = .ok (.iadd, 1) := by decide +kernel
theorem d132_63 : decode prog_14_method_19_code 63 = .ok (.iconst 0, 1) := by decide +kernel
theorem d132_64 : decode prog_14_method_19_code 64 = .ok (.iastore, 1) := by decide +kernel
theorem d132_65 : decode prog_14_method_19_code 65 = .ok (.iinc 2 1, 3) := by decide +kernel
theorem d132_68 : decode prog_14_method_19_code 68 = .ok (.goto (-30), 3) := by decide +kernel
theorem d132_71 : decode prog_14_method_19_code 71 = .ok (.return_, 1) := by decide +kernel
noncomputable def T_132 : Nat → Option xF := bn 36 (bn 18 (bn 8 (bn 5 (bn 1 (bl 0 (y_aload 0 1)) (bn 4 (bl 1 (y_getf 12 3 4)) (bl 4 (y_iload 1 5)))) (bn 6 (bl 5 (x_const 2147483648 6)) (bn 7 (bl 6 (y_iast 7)) (bl 7 (y_aload 0 8))))) (bn 13 (bn 11 (bl 8 (y_getf 12 4 11)) (bn 12 (bl 11 (y_iload 1 12)) (bl 12 (x_const 2147483648 13)))) (bn 14 (bl 13 (y_iast 14)) (bn 15 (bl 14 (y_aload 0 15)) (bl 15 (y_getf 12 40 18)))))) (bn 27 (bn 22 (bn 19 (bl 18 (y_iload 1 19)) (bn 21 (bl 19 (x_const 2147483668 21)) (bl 21 (y_iast 22)))) (bn 23 (bl 22 (y_aload 0 23)) (bn 26 (bl 23 (y_getf 12 9 26)) (bl 26 (y_iload 1 27))))) (bn 30 (bn 28 (bl 27 (x_const 2147483648 28)) (bn 29 (bl 28 (y_iast 29)) (bl 29 (y_aload 0 30)))) (bn 34 (bn 33 (bl 30 (y_getf 12 5 33)) (bl 33 (y_iload 1 34))) (bn 35 (bl 34 (x_const 2147483648 35)) (bl 35 (y_iast 36))))))) (bn 52 (bn 44 (bn 39 (bn 37 (bl 36 (x_const 2147483648 37)) (bn 38 (bl 37 (y_istore 2 38)) (bl 38 (y_iload 2 39)))) (bn 40 (bl 39 (x_const 2147483652 40)) (bn 43 (bl 40 (y_icmp yc3 71 43)) (bl 43 (y_aload 0 44))))) (bn 49 (bn 47 (bl 44 (y_getf 12 41 47)) (bn 48 (bl 47 (x_const 2147483652 48)) (bl 48 (y_iload 1 49)))) (bn 50 (bl 49 (y_bin (xfg (fun x y => x * y)) 50)) (bn 51 (bl 50 (y_iload 2 51)) (bl 51 (y_bin yadd 52)))))) (bn 60 (bn 55 (bn 53 (bl 52 (x_const 2147483648 53)) (bn 54 (bl 53 (y_iast 54)) (bl 54 (y_aload 0 55)))) (bn 58 (bl 55 (y_getf 12 42 58)) (bn 59 (bl 58 (x_const 2147483652 59)) (bl 59 (y_iload 1 60))))) (bn 63 (bn 61 (bl 60 (y_bin (xfg (fun x y => x * y)) 61)) (bn 62 (bl 61 (y_iload 2 62)) (bl 62 (y_bin yadd 63)))) (bn 65 (bn 64 (bl 63 (x_const 2147483648 64)) (bl 64 (y_iast 65))) (bn 68 (bl 65 (y_iinc 2 2147483649 68)) (bl 68 (x_goto 38)))))))
set_option maxRecDepth 100000 in
set_option maxHeartbeats 4000000 in
theorem T_132_ok (G : State → Nat → Nat → Prop) : xTree PX G prog_14_method_19_code "CapitalCaseModel" false T_132 := (xT_n (xT_n (xT_n (xT_n (xT_n (xT_l (yS (y_aload_eq _ _) (s_aload_n d132_0))) (xT_n (xT_l (yS (y_getf_eq _ _ _) (s_getf (T := TX12) (N := 70) d132_1 rfl inX12 (by decide) wd_1303))) (xT_l (yS (y_iload_eq _ _) (s_iload_n d132_4))))) (xT_n (xT_l (s_iconst d132_5 (by decide +kernel))) (xT_n (xT_l (yS (y_iast_eq _) (s_iast d132_6))) (xT_l (yS (y_aload_eq _ _) (s_aload_n d132_7)))))) (xT_n (xT_n (xT_l (yS (y_getf_eq _ _ _) (s_getf (T := TX12) (N := 70) d132_8 rfl inX12 (by decide) wd_1305))) (xT_n (xT_l (yS (y_iload_eq _ _) (s_iload_n d132_11))) (xT_l (s_iconst d132_12 (by decide +kernel))))) (xT_n (xT_l (yS (y_iast_eq _) (s_iast d132_13))) (xT_n (xT_l (yS (y_aload_eq _ _) (s_aload_n d132_14))) (xT_l (yS (y_getf_eq _ _ _) (s_getf (T := TX12) (N := 70) d132_15 rfl inX12 (by decide) wd_1310))))))) (xT_n (xT_n (xT_n (xT_l (yS (y_iload_eq _ _) (s_iload_n d132_18))) (xT_n (xT_l (s_bipush d132_19 (by decide +kernel))) (xT_l (yS (y_iast_eq _) (s_iast d132_21))))) (xT_n (xT_l (yS (y_aload_eq _ _) (s_aload_n d132_22))) (xT_n (xT_l (yS (y_getf_eq _ _ _) (s_getf (T := TX12) (N := 70) d132_23 rfl inX12 (by decide) wd_1311))) (xT_l (yS (y_iload_eq _ _) (s_iload_n d132_26)))))) (xT_n (xT_n (xT_l (s_iconst d132_27 (by decide +kernel))) (xT_n (xT_l (yS (y_iast_eq _) (s_iast d132_28))) (xT_l (yS (y_aload_eq _ _) (s_aload_n d132_29))))) (xT_n (xT_n (xT_l (yS (y_getf_eq _ _ _) (s_getf (T := TX12) (N := 70) d132_30 rfl inX12 (by decide) wd_1312))) (xT_l (yS (y_iload_eq _ _) (s_iload_n d132_33)))) (xT_n (xT_l (s_iconst d132_34 (by decide +kernel))) (xT_l (yS (y_iast_eq _) (s_iast d132_35)))))))) (xT_n (xT_n (xT_n (xT_n (xT_l (s_iconst d132_36 (by decide +kernel))) (xT_n (xT_l (yS (y_istore_eq _ _) (s_istore_n d132_37))) (xT_l (yS (y_iload_eq _ _) (s_iload_n d132_38))))) (xT_n (xT_l (s_iconst d132_39 (by decide +kernel))) (xT_n (xT_l (yS (y_icmp_eq yc3_eq _ _) (s_icmpge d132_40 (by decide +kernel)))) (xT_l (yS (y_aload_eq _ _) (s_aload_n d132_43)))))) (xT_n (xT_n (xT_l (yS (y_getf_eq _ _ _) (s_getf (T := TX12) (N := 70) d132_44 rfl inX12 (by decide) wd_1313))) (xT_n (xT_l (s_iconst d132_47 (by decide +kernel))) (xT_l (yS (y_iload_eq _ _) (s_iload_n d132_48))))) (xT_n (xT_l (yS (y_bin_eq _ _) (s_imul d132_49))) (xT_n (xT_l (yS (y_iload_eq _ _) (s_iload_n d132_50))) (xT_l (yS (y_bin_eq _ _) (s_iadd d132_51))))))) (xT_n (xT_n (xT_n (xT_l (s_iconst d132_52 (by decide +kernel))) (xT_n (xT_l (yS (y_iast_eq _) (s_iast d132_53))) (xT_l (yS (y_aload_eq _ _) (s_aload_n d132_54))))) (xT_n (xT_l (yS (y_getf_eq _ _ _) (s_getf (T := TX12) (N := 70) d132_55 rfl inX12 (by decide) wd_1314))) (xT_n (xT_l (s_iconst d132_58 (by decide +kernel))) (xT_l (yS (y_iload_eq _ _) (s_iload_n d132_59)))))) (xT_n (xT_n (xT_l (yS (y_bin_eq _ _) (s_imul d132_60))) (xT_n (xT_l (yS (y_iload_eq _ _) (s_iload_n d132_61))) (xT_l (yS (y_bin_eq _ _) (s_iadd d132_62))))) (xT_n (xT_n (xT_l (s_iconst d132_63 (by decide +kernel))) (xT_l (yS (y_iast_eq _) (s_iast d132_64)))) (xT_n (xT_l (yS (y_iinc_eq _ _ _) (s_iinc d132_65 (by decide +kernel)))) (xT_l (s_goto d132_68 (by decide +kernel)))))))))
set_option maxRecDepth 100000 in
set_option maxHeartbeats 4000000 in
theorem M_132 : xMeth PX 132 (T_132, 3, [(71, 3)]) := ⟨⟨"CapitalCaseModel", "plain", "(I)V"⟩, prog_14_method_19_code, none, rfl, by decide, fun G => T_132_ok G, xrt_ok (xR_c (Or.inr (Or.inr (Or.inl ⟨rfl, d132_71, rfl⟩))) (xR_n))⟩
theorem d133_0 : decode prog_14_method_4_code 0 = .ok (.bipush 24, 2) := by decide +kernel
theorem d133_2 : decode prog_14_method_4_code 2 = .ok (.istore_n 2, 1) := by decide +kernel
theorem d133_3 : decode prog_14_method_4_code 3 = .ok (.iload_n 2, 1) := by decide +kernel
theorem d133_4 : decode prog_14_method_4_code 4 = .ok (.ifCond .lt 32, 3) := by decide +kernel
theorem d133_7 : decode prog_14_method_4_code 7 = .ok (.aload_n 0, 1) := by decide +kernel
theorem d133_8 : decode prog_14_method_4_code 8 = .ok (.getfield 13, 3) := by decide +kernel
theorem d133_11 : decode prog_14_method_4_code 11 = .ok (.aload_n 0, 1) := by decide +kernel
theorem d133_12 : decode prog_14_method_4_code 12 = .ok (.getfield 163, 3) := by decide +kernel
theorem d133_15 : decode prog_14_method_4_code 15 = .ok (.iload_n 1, 1) := by decide +kernel
theorem d133_16 : decode prog_14_method_4_code 16 = .ok (.iload_n 2, 1) := by decide +kernel
theorem d133_17 : decode prog_14_method_4_code 17 = .ok (.ishr, 1) := by decide +kernel
theorem d133_18 : decode prog_14_method_4_code 18 = .ok (.i2b, 1) := by decide +kernel
theorem d133_19 : decode prog_14_method_4_code 19 = .ok (.bastore, 1) := by decide +kernel
theorem d133_20 : decode prog_14_method_4_code 20 = .ok (.aload_n 0, 1) := by decide +kernel
theorem d133_21 : decode prog_14_method_4_code 21 = .ok (.dup, 1) := by decide +kernel
theorem d133_22 : decode prog_14_method_4_code 22 = .ok (.getfield 163, 3) := by decide +kernel
theorem d133_25 : decode prog_14_method_4_code 25 = .ok (.iconst 1, 1) := by decide +kernel
theorem d133_26 : decode prog_14_method_4_code 26 = .ok (.iadd, 1) := by decide +kernel
theorem d133_27 : decode prog_14_method_4_code 27 = .ok (.putfield 163, 3) := by decide +kernel
theorem d133_30 : decode prog_14_method_4_code 30 = .ok (.iinc 2 (-8), 3) := by decide +kernel
theorem d133_33 : decode prog_14_method_4_code 33 = .ok (.goto (-30), 3) := by decide +kernel
theorem d133_36 : decode prog_14_method_4_code 36 = .ok (.return_, 1) := by decide +kernel
noncomputable def T_133 : Nat → Option xF := bn 17 (bn 8 (bn 3 (bn 2 (bl 0 (x_const 2147483672 2)) (bl 2 (y_istore 2 3))) (bn 4 (bl 3 (y_iload 2 4)) (bn 7 (bl 4 (y_if yc2 36 7)) (bl 7 (y_aload 0 8))))) (bn 12 (bn 11 (bl 8 (y_getf 12 13 11)) (bl 11 (y_aload 0 12))) (bn 15 (bl 12 (y_getf 12 12 15)) (bn 16 (bl 15 (y_iload 1 16)) (bl 16 (y_iload 2 17)))))) (bn 22 (bn 19 (bn 18 (bl 17 (y_bin (xfg (fun x y => x >>> (y &&& 31))) 18)) (bl 18 (x_un (fun o => xo ((xi o).toInt8.toInt32)) 19))) (bn 20 (bl 19 (x_bast 20)) (bn 21 (bl 20 (y_aload 0 21)) (bl 21 (x_dup 22))))) (bn 27 (bn 25 (bl 22 (y_getf 12 12 25)) (bn 26 (bl 25 (x_const 2147483649 26)) (bl 26 (y_bin yadd 27)))) (bn 30 (bl 27 (y_putf 12 12 0 30)) (bn 33 (bl 30 (y_iinc 2 2147483640 33)) (bl 33 (x_goto 3))))))
set_option maxRecDepth 100000 in
set_option maxHeartbeats 4000000 in
theorem T_133_ok (G : State → Nat → Nat → Prop) : xTree PX G prog_14_method_4_code "CapitalCaseModel" false T_133 := (xT_n (xT_n (xT_n (xT_n (xT_l (s_bipush d133_0 (by decide +kernel))) (xT_l (yS (y_istore_eq _ _) (s_istore_n d133_2)))) (xT_n (xT_l (yS (y_iload_eq _ _) (s_iload_n d133_3))) (xT_n (xT_l (yS (y_if_eq yc2_eq _ _) (s_iflt d133_4 (by decide +kernel)))) (xT_l (yS (y_aload_eq _ _) (s_aload_n d133_7)))))) (xT_n (xT_n (xT_l (yS (y_getf_eq _ _ _) (s_getf (T := TX12) (N := 70) d133_8 rfl inX12 (by decide) wd_1282))) (xT_l (yS (y_aload_eq _ _) (s_aload_n d133_11)))) (xT_n (xT_l (yS (y_getf_eq _ _ _) (s_getf (T := TX12) (N := 70) d133_12 rfl inX12 (by decide) wd_1283))) (xT_n (xT_l (yS (y_iload_eq _ _) (s_iload_n d133_15))) (xT_l (yS (y_iload_eq _ _) (s_iload_n d133_16))))))) (xT_n (xT_n (xT_n (xT_l (yS (y_bin_eq _ _) (s_ishr d133_17))) (xT_l (s_i2b d133_18))) (xT_n (xT_l (s_bast d133_19)) (xT_n (xT_l (yS (y_aload_eq _ _) (s_aload_n d133_20))) (xT_l (s_dup d133_21))))) (xT_n (xT_n (xT_l (yS (y_getf_eq _ _ _) (s_getf (T := TX12) (N := 70) d133_22 rfl inX12 (by decide) wd_1283))) (xT_n (xT_l (s_iconst d133_25 (by decide +kernel))) (xT_l (yS (y_bin_eq _ _) (s_iadd d133_26))))) (xT_n (xT_l (yS (y_putf_eq _ _ _ _) (s_putf (T := TX12) (N := 70) (ty := tyX12) d133_27 rfl inX12 tyX12_ok nmX12 (by decide) wd_1283 (Or.inl ⟨rfl, rfl⟩) rfl))) (xT_n (xT_l (yS (y_iinc_eq _ _ _) (s_iinc d133_30 (by decide +kernel)))) (xT_l (s_goto d133_33 (by decide +kernel))))))))
set_option maxRecDepth 100000 in
set_option maxHeartbeats 4000000 in
theorem M_133 : xMeth PX 133 (T_133, 3, [(36, 3)]) := ⟨⟨"CapitalCaseModel", "put", "(I)V"⟩, prog_14_method_4_code, none, rfl, by decide, fun G => T_133_ok G, xrt_ok (xR_c (Or.inr (Or.inr (Or.inl ⟨rfl, d133_36, rfl⟩))) (xR_n))⟩
theorem d134_0 : decode prog_14_method_20_code 0 = .ok (.aload_n 0, 1) := by decide +kernel
theorem d134_1 : decode prog_14_method_20_code 1 = .ok (.aload_n 0, 1) := by decide +kernel
theorem d134_2 : decode prog_14_method_20_code 2 = .ok (.getfield 163, 3) := by decide +kernel
theorem d134_5 : decode prog_14_method_20_code 5 = .ok (.putfield 169, 3) := by decide +kernel
theorem d134_8 : decode prog_14_method_20_code 8 = .ok (.iconst 0, 1) := by decide +kernel
theorem d134_9 : decode prog_14_method_20_code 9 = .ok (.istore_n 1, 1) := by decide +kernel
theorem d134_10 : decode prog_14_method_20_code 10 = .ok (.iload_n 1, 1) := by decide +kernel
theorem d134_11 : decode prog_14_method_20_code 11 = .ok (.aload_n 0, 1) := by decide +kernel
theorem d134_12 : decode prog_14_method_20_code 12 = .ok (.getfield 169, 3) := by decide +kernel
theorem d134_15 : decode prog_14_method_20_code 15 = .ok (.if_icmp .ge 21, 3) := by decide +kernel
theorem d134_36 : decode prog_14_method_20_code 36 = .ok (.aload_n 0, 1) := by decide +kernel
theorem d134_37 : decode prog_14_method_20_code 37 = .ok (.iconst 0, 1) := by decide +kernel
theorem d134_38 : decode prog_14_method_20_code 38 = .ok (.putfield 163, 3) := by decide +kernel
theorem d134_41 : decode prog_14_method_20_code 41 = .ok (.aload_n 0, 1) := by decide +kernel
theorem d134_42 : decode prog_14_method_20_code 42 = .ok (.invokevirtual 224, 3) := by decide +kernel
theorem d134_45 : decode prog_14_method_20_code 45 = .ok (.aload_n 0, 1) := by decide +kernel
theorem d134_46 : decode prog_14_method_20_code 46 = .ok (.iconst 0, 1) := by decide +kernel
theorem d134_47 : decode prog_14_method_20_code 47 = .ok (.putfield 203, 3) := by decide +kernel
theorem d134_50 : decode prog_14_method_20_code 50 = .ok (.aload_n 0, 1) := by decide +kernel
theorem d134_51 : decode prog_14_method_20_code 51 = .ok (.iconst 0, 1) := by decide +kernel
theorem d134_52 : decode prog_14_method_20_code 52 = .ok (.putfield 227, 3) := by decide +kernel
theorem d134_55 : decode prog_14_method_20_code 55 = .ok (.aload_n 0, 1) := by decide +kernel
theorem d134_56 : decode prog_14_method_20_code 56 = .ok (.iconst 0, 1) := by decide +kernel
theorem d134_57 : decode prog_14_method_20_code 57 = .ok (.putfield 200, 3) := by decide +kernel
theorem d134_60 : decode prog_14_method_20_code 60 = .ok (.aload_n 0, 1) := by decide +kernel
theorem d134_61 : decode prog_14_method_20_code 61 = .ok (.iconst 0, 1) := by decide +kernel
theorem d134_62 : decode prog_14_method_20_code 62 = .ok (.putfield 209, 3) := by decide +kernel
theorem d134_65 : decode prog_14_method_20_code 65 = .ok (.aload_n 0, 1) := by decide +kernel
theorem d134_66 : decode prog_14_method_20_code 66 = .ok (.iconst 1, 1) := by decide +kernel
theorem d134_67 : decode prog_14_method_20_code 67 = .ok (.aload_n 0, 1) := by decide +kernel
theorem d134_68 : decode prog_14_method_20_code 68 = .ok (.getfield 230, 3) := by decide +kernel
theorem d134_71 : decode prog_14_method_20_code 71 = .ok (.isub, 1) := by decide +kernel
theorem d134_72 : decode prog_14_method_20_code 72 = .ok (.putfield 233, 3) := by decide +kernel
theorem d134_75 : decode prog_14_method_20_code 75 = .ok (.aload_n 0, 1) := by decide +kernel
theorem d134_76 : decode prog_14_method_20_code 76 = .ok (.iconst 0, 1) := by decide +kernel
theorem d134_77 : decode prog_14_method_20_code 77 = .ok (.putfield 236, 3) := by decide +kernel
theorem d134_80 : decode prog_14_method_20_code 80 = .ok (.aload_n 0, 1) := by decide +kernel
theorem d134_81 : decode prog_14_method_20_code 81 = .ok (.aload_n 0, 1) := by decide +kernel
theorem d134_82 : decode prog_14_method_20_code 82 = .ok (.getfield 233, 3) := by decide +kernel
theorem d134_85 : decode prog_14_method_20_code 85 = .ok (.invokevirtual 149, 3) := by decide +kernel
theorem d134_88 : decode prog_14_method_20_code 88 = .ok (.aload_n 0, 1) := by decide +kernel
theorem d134_89 : decode prog_14_method_20_code 89 = .ok (.sipush 130, 3) := by decide +kernel
theorem d134_92 : decode prog_14_method_20_code 92 = .ok (.aload_n 0, 1) := by decide +kernel
theorem d134_93 : decode prog_14_method_20_code 93 = .ok (.getfield 233, 3) := by decide +kernel
theorem d134_96 : decode prog_14_method_20_code 96 = .ok (.imul, 1) := by decide +kernel
theorem d134_97 : decode prog_14_method_20_code 97 = .ok (.putfield 239, 3) := by decide +kernel
theorem d134_100 : decode prog_14_method_20_code 100 = .ok (.aload_n 0, 1) := by decide +kernel
theorem d134_101 : decode prog_14_method_20_code 101 = .ok (.sipush 420, 3) := by decide +kernel
theorem d134_104 : decode prog_14_method_20_code 104 = .ok (.aload_n 0, 1) := by decide +kernel
theorem d134_105 : decode prog_14_method_20_code 105 = .ok (.getfield 233, 3) := by decide +kernel
theorem d134_108 : decode prog_14_method_20_code 108 = .ok (.imul, 1) := by decide +kernel
theorem d134_109 : decode prog_14_method_20_code 109 = .ok (.putfield 242, 3) := by decide +kernel
theorem d134_112 : decode prog_14_method_20_code 112 = .ok (.aload_n 0, 1) := by decide +kernel
theorem d134_113 : decode prog_14_method_20_code 113 = .ok (.getfield 200, 3) := by decide +kernel
theorem d134_116 : decode prog_14_method_20_code 116 = .ok (.ifCond .ne 18, 3) := by decide +kernel
theorem d134_119 : decode prog_14_method_20_code 119 = .ok (.aload_n 0, 1) := by decide +kernel
theorem d134_120 : decode prog_14_method_20_code 120 = .ok (.iconst 0, 1) := by decide +kernel
theorem d134_121 : decode prog_14_method_20_code 121 = .ok (.invokevirtual 218, 3) := by decide +kernel
theorem d134_124 : decode prog_14_method_20_code 124 = .ok (.ifCond .ne 10, 3) := by decide +kernel
theorem d134_134 : decode prog_14_method_20_code 134 = .ok (.aload_n 0, 1) := by decide +kernel
theorem d134_135 : decode prog_14_method_20_code 135 = .ok (.aload_n 0, 1) := by decide +kernel
theorem d134_136 : decode prog_14_method_20_code 136 = .ok (.getfield 200, 3) := by decide +kernel
theorem d134_139 : decode prog_14_method_20_code 139 = .ok (.ifCond .le 10, 3) := by decide +kernel
theorem d134_149 : decode prog_14_method_20_code 149 = .ok (.aload_n 0, 1) := by decide +kernel
theorem d134_150 : decode prog_14_method_20_code 150 = .ok (.getfield 209, 3) := by decide +kernel
theorem d134_153 : decode prog_14_method_20_code 153 = .ok (.ifCond .le 10, 3) := by decide +kernel
theorem d134_163 : decode prog_14_method_20_code 163 = .ok (.iconst (-1), 1) := by decide +kernel
theorem d134_164 : decode prog_14_method_20_code 164 = .ok (.putfield 37, 3) := by decide +kernel
theorem d134_167 : decode prog_14_method_20_code 167 = .ok (.aload_n 0, 1) := by decide +kernel
theorem d134_168 : decode prog_14_method_20_code 168 = .ok (.getfield 200, 3) := by decide +kernel
theorem d134_171 : decode prog_14_method_20_code 171 = .ok (.ifCond .le 8, 3) := by decide +kernel
theorem d134_179 : decode prog_14_method_20_code 179 = .ok (.aload_n 0, 1) := by decide +kernel
theorem d134_180 : decode prog_14_method_20_code 180 = .ok (.getfield 209, 3) := by decide +kernel
theorem d134_183 : decode prog_14_method_20_code 183 = .ok (.ifCond .le 8, 3) := by decide +kernel
theorem d134_191 : decode prog_14_method_20_code 191 = .ok (.aload_n 0, 1) := by decide +kernel
theorem d134_192 : decode prog_14_method_20_code 192 = .ok (.aload_n 0, 1) := by decide +kernel
theorem d134_193 : decode prog_14_method_20_code 193 = .ok (.getfield 233, 3) := by decide +kernel
theorem d134_196 : decode prog_14_method_20_code 196 = .ok (.putfield 230, 3) := by decide +kernel
theorem d134_199 : decode prog_14_method_20_code 199 = .ok (.aload_n 0, 1) := by decide +kernel
theorem d134_200 : decode prog_14_method_20_code 200 = .ok (.invokevirtual 157, 3) := by decide +kernel
theorem d134_203 : decode prog_14_method_20_code 203 = .ok (.aload_n 0, 1) := by decide +kernel
theorem d134_204 : decode prog_14_method_20_code 204 = .ok (.invokevirtual 160, 3) := by decide +kernel
theorem d134_207 : decode prog_14_method_20_code 207 = .ok (.aload_n 0, 1) := by decide +kernel
theorem d134_208 : decode prog_14_method_20_code 208 = .ok (.iconst 0, 1) := by decide +kernel
theorem d134_209 : decode prog_14_method_20_code 209 = .ok (.putfield 248, 3) := by decide +kernel
theorem d134_212 : decode prog_14_method_20_code 212 = .ok (.aload_n 0, 1) := by decide +kernel
theorem d134_213 : decode prog_14_method_20_code 213 = .ok (.iconst 0, 1) := by decide +kernel
theorem d134_214 : decode prog_14_method_20_code 214 = .ok (.putfield 251, 3) := by decide +kernel
theorem d134_217 : decode prog_14_method_20_code 217 = .ok (.iconst 0, 1) := by decide +kernel
theorem d134_218 : decode prog_14_method_20_code 218 = .ok (.istore_n 1, 1) := by decide +kernel
theorem d134_219 : decode prog_14_method_20_code 219 = .ok (.iload_n 1, 1) := by decide +kernel
theorem d134_220 : decode prog_14_method_20_code 220 = .ok (.iconst 3, 1) := by decide +kernel
theorem d134_221 : decode prog_14_method_20_code 221 = .ok (.if_icmp .ge 16, 3) := by decide +kernel
theorem d134_224 : decode prog_14_method_20_code 224 = .ok (.aload_n 0, 1) := by decide +kernel
theorem d134_225 : decode prog_14_method_20_code 225 = .ok (.getfield 143, 3) := by decide +kernel
theorem d134_228 : decode prog_14_method_20_code 228 = .ok (.iload_n 1, 1) := by decide +kernel
theorem d134_229 : decode prog_14_method_20_code 229 = .ok (.iconst 0, 1) := by decide +kernel
theorem d134_230 : decode prog_14_method_20_code 230 = .ok (.bastore, 1) := by decide +kernel
theorem d134_231 : decode prog_14_method_20_code 231 = .ok (.iinc 1 1, 3) := by decide +kernel
theorem d134_234 : decode prog_14_method_20_code 234 = .ok (.goto (-15), 3) := by decide +kernel
theorem d134_237 : decode prog_14_method_20_code 237 = .ok (.iconst 0, 1) := by decide +kernel
theorem d134_238 : decode prog_14_method_20_code 238 = .ok (.ireturn, 1) := by decide +kernel
noncomputable def T_134 : Nat → Option xF := bn 108 (bn 61 (bn 38 (bn 10 (bn 5 (bn 1 (bl 0 (y_aload 0 1)) (bn 2 (bl 1 (y_aload 0 2)) (bl 2 (y_getf 12 12 5)))) (bn 8 (bl 5 (y_putf 12 18 0 8)) (bn 9 (bl 8 (x_const 2147483648 9)) (bl 9 (y_istore 1 10))))) (bn 15 (bn 11 (bl 10 (y_iload 1 11)) (bn 12 (bl 11 (y_aload 0 12)) (bl 12 (y_getf 12 18 15)))) (bn 36 (bl 15 (y_icmp yc3 36 18)) (bn 37 (bl 36 (y_aload 0 37)) (bl 37 (x_const 2147483648 38)))))) (bn 50 (bn 45 (bn 41 (bl 38 (y_putf 12 12 0 41)) (bn 42 (bl 41 (y_aload 0 42)) (bl 42 (y_invV 12 103 1 45)))) (bn 46 (bl 45 (y_aload 0 46)) (bn 47 (bl 46 (x_const 2147483648 47)) (bl 47 (y_putf 12 25 0 50))))) (bn 55 (bn 51 (bl 50 (y_aload 0 51)) (bn 52 (bl 51 (x_const 2147483648 52)) (bl 52 (y_putf 12 26 0 55)))) (bn 57 (bn 56 (bl 55 (y_aload 0 56)) (bl 56 (x_const 2147483648 57))) (bn 60 (bl 57 (y_putf 12 27 0 60)) (bl 60 (y_aload 0 61))))))) (bn 81 (bn 71 (bn 66 (bn 62 (bl 61 (x_const 2147483648 62)) (bn 65 (bl 62 (y_putf 12 29 0 65)) (bl 65 (y_aload 0 66)))) (bn 67 (bl 66 (x_const 2147483649 67)) (bn 68 (bl 67 (y_aload 0 68)) (bl 68 (y_getf 12 2 71))))) (bn 76 (bn 72 (bl 71 (y_bin ysub 72)) (bn 75 (bl 72 (y_putf 12 32 0 75)) (bl 75 (y_aload 0 76)))) (bn 77 (bl 76 (x_const 2147483648 77)) (bn 80 (bl 77 (y_putf 12 33 0 80)) (bl 80 (y_aload 0 81)))))) (bn 93 (bn 88 (bn 82 (bl 81 (y_aload 0 82)) (bn 85 (bl 82 (y_getf 12 32 85)) (bl 85 (y_invV 12 132 2 88)))) (bn 89 (bl 88 (y_aload 0 89)) (bn 92 (bl 89 (x_const 2147483778 92)) (bl 92 (y_aload 0 93))))) (bn 100 (bn 96 (bl 93 (y_getf 12 32 96)) (bn 97 (bl 96 (y_bin (xfg (fun x y => x * y)) 97)) (bl 97 (y_putf 12 43 0 100)))) (bn 104 (bn 101 (bl 100 (y_aload 0 101)) (bl 101 (x_const 2147484068 104))) (bn 105 (bl 104 (y_aload 0 105)) (bl 105 (y_getf 12 32 108)))))))) (bn 192 (bn 139 (bn 120 (bn 113 (bn 109 (bl 108 (y_bin (xfg (fun x y => x * y)) 109)) (bn 112 (bl 109 (y_putf 12 49 0 112)) (bl 112 (y_aload 0 113)))) (bn 116 (bl 113 (y_getf 12 27 116)) (bn 119 (bl 116 (y_if yc1 134 119)) (bl 119 (y_aload 0 120))))) (bn 134 (bn 121 (bl 120 (x_const 2147483648 121)) (bn 124 (bl 121 (y_invV 12 116 2 124)) (bl 124 (y_if yc1 134 127)))) (bn 135 (bl 134 (y_aload 0 135)) (bn 136 (bl 135 (y_aload 0 136)) (bl 136 (y_getf 12 27 139)))))) (bn 167 (bn 153 (bn 149 (bl 139 (y_if yc5 149 142)) (bn 150 (bl 149 (y_aload 0 150)) (bl 150 (y_getf 12 29 153)))) (bn 163 (bl 153 (y_if yc5 163 156)) (bn 164 (bl 163 (x_const 2147483647 164)) (bl 164 (y_putf 12 31 0 167))))) (bn 179 (bn 168 (bl 167 (y_aload 0 168)) (bn 171 (bl 168 (y_getf 12 27 171)) (bl 171 (y_if yc5 179 174)))) (bn 183 (bn 180 (bl 179 (y_aload 0 180)) (bl 180 (y_getf 12 29 183))) (bn 191 (bl 183 (y_if yc5 191 186)) (bl 191 (y_aload 0 192))))))) (bn 217 (bn 204 (bn 199 (bn 193 (bl 192 (y_aload 0 193)) (bn 196 (bl 193 (y_getf 12 32 196)) (bl 196 (y_putf 12 2 0 199)))) (bn 200 (bl 199 (y_aload 0 200)) (bn 203 (bl 200 (y_invV 12 95 1 203)) (bl 203 (y_aload 0 204))))) (bn 209 (bn 207 (bl 204 (y_invV 12 122 1 207)) (bn 208 (bl 207 (y_aload 0 208)) (bl 208 (x_const 2147483648 209)))) (bn 213 (bn 212 (bl 209 (y_putf 12 10 0 212)) (bl 212 (y_aload 0 213))) (bn 214 (bl 213 (x_const 2147483648 214)) (bl 214 (y_putf 12 64 0 217)))))) (bn 225 (bn 220 (bn 218 (bl 217 (x_const 2147483648 218)) (bn 219 (bl 218 (y_istore 1 219)) (bl 219 (y_iload 1 220)))) (bn 221 (bl 220 (x_const 2147483651 221)) (bn 224 (bl 221 (y_icmp yc3 237 224)) (bl 224 (y_aload 0 225))))) (bn 230 (bn 228 (bl 225 (y_getf 12 68 228)) (bn 229 (bl 228 (y_iload 1 229)) (bl 229 (x_const 2147483648 230)))) (bn 234 (bn 231 (bl 230 (x_bast 231)) (bl 231 (y_iinc 1 2147483649 234))) (bn 237 (bl 234 (x_goto 219)) (bl 237 (x_const 2147483648 238))))))))
set_option maxRecDepth 100000 in
set_option maxHeartbeats 4000000 in
theorem T_134_ok (G : State → Nat → Nat → Prop) : xTree PX G prog_14_method_20_code "CapitalCaseModel" false T_134 := (xT_n (xT_n (xT_n (xT_n (xT_n (xT_n (xT_l (yS (y_aload_eq _ _) (s_aload_n d134_0))) (xT_n (xT_l (yS (y_aload_eq _ _) (s_aload_n d134_1))) (xT_l (yS (y_getf_eq _ _ _) (s_getf (T := TX12) (N := 70) d134_2 rfl inX12 (by decide) wd_1283))))) (xT_n (xT_l (yS (y_putf_eq _ _ _ _) (s_putf (T := TX12) (N := 70) (ty := tyX12) d134_5 rfl inX12 tyX12_ok nmX12 (by decide) wd_1285 (Or.inl ⟨rfl, rfl⟩) rfl))) (xT_n (xT_l (s_iconst d134_8 (by decide +kernel))) (xT_l (yS (y_istore_eq _ _) (s_istore_n d134_9)))))) (xT_n (xT_n (xT_l (yS (y_iload_eq _ _) (s_iload_n d134_10))) (xT_n (xT_l (yS (y_aload_eq _ _) (s_aload_n d134_11))) (xT_l (yS (y_getf_eq _ _ _) (s_getf (T := TX12) (N := 70) d134_12 rfl inX12 (by decide) wd_1285))))) (xT_n (xT_l (yS (y_icmp_eq yc3_eq _ _) (s_icmpge d134_15 (by decide +kernel)))) (xT_n (xT_l (yS (y_aload_eq _ _) (s_aload_n d134_36))) (xT_l (s_iconst d134_37 (by decide +kernel))))))) (xT_n (xT_n (xT_n (xT_l (yS (y_putf_eq _ _ _ _) (s_putf (T := TX12) (N := 70) (ty := tyX12) d134_38 rfl inX12 tyX12_ok nmX12 (by decide) wd_1283 (Or.inl ⟨rfl, rfl⟩) rfl))) (xT_n (xT_l (yS (y_aload_eq _ _) (s_aload_n d134_41))) (xT_l (yS (y_invV_eq _ _ _ _) (s_invV (T := TX12) d134_42 cal_103 rfl wd_1509 wd_1511 wd_48))))) (xT_n (xT_l (yS (y_aload_eq _ _) (s_aload_n d134_45))) (xT_n (xT_l (s_iconst d134_46 (by decide +kernel))) (xT_l (yS (y_putf_eq _ _ _ _) (s_putf (T := TX12) (N := 70) (ty := tyX12) d134_47 rfl inX12 tyX12_ok nmX12 (by decide) wd_1292 (Or.inl ⟨rfl, rfl⟩) rfl)))))) (xT_n (xT_n (xT_l (yS (y_aload_eq _ _) (s_aload_n d134_50))) (xT_n (xT_l (s_iconst d134_51 (by decide +kernel))) (xT_l (yS (y_putf_eq _ _ _ _) (s_putf (T := TX12) (N := 70) (ty := tyX12) d134_52 rfl inX12 tyX12_ok nmX12 (by decide) wd_1293 (Or.inl ⟨rfl, rfl⟩) rfl))))) (xT_n (xT_n (xT_l (yS (y_aload_eq _ _) (s_aload_n d134_55))) (xT_l (s_iconst d134_56 (by decide +kernel)))) (xT_n (xT_l (yS (y_putf_eq _ _ _ _) (s_putf (T := TX12) (N := 70) (ty := tyX12) d134_57 rfl inX12 tyX12_ok nmX12 (by decide) wd_1294 (Or.inl ⟨rfl, rfl⟩) rfl))) (xT_l (yS (y_aload_eq _ _) (s_aload_n d134_60)))))))) (xT_n (xT_n (xT_n (xT_n (xT_l (s_iconst d134_61 (by decide +kernel))) (xT_n (xT_l (yS (y_putf_eq _ _ _ _) (s_putf (T := TX12) (N := 70) (ty := tyX12) d134_62 rfl inX12 tyX12_ok nmX12 (by decide) wd_1296 (Or.inl ⟨rfl, rfl⟩) rfl))) (xT_l (yS (y_aload_eq _ _) (s_aload_n d134_65))))) (xT_n (xT_l (s_iconst d134_66 (by decide +kernel))) (xT_n (xT_l (yS (y_aload_eq _ _) (s_aload_n d134_67))) (xT_l (yS (y_getf_eq _ _ _) (s_getf (T := TX12) (N := 70) d134_68 rfl inX12 (by decide) wd_1299)))))) (xT_n (xT_n (xT_l (yS (y_bin_eq _ _) (s_isub d134_71))) (xT_n (xT_l (yS (y_putf_eq _ _ _ _) (s_putf (T := TX12) (N := 70) (ty := tyX12) d134_72 rfl inX12 tyX12_ok nmX12 (by decide) wd_1300 (Or.inl ⟨rfl, rfl⟩) rfl))) (xT_l (yS (y_aload_eq _ _) (s_aload_n d134_75))))) (xT_n (xT_l (s_iconst d134_76 (by decide +kernel))) (xT_n (xT_l (yS (y_putf_eq _ _ _ _) (s_putf (T := TX12) (N := 70) (ty := tyX12) d134_77 rfl inX12 tyX12_ok nmX12 (by decide) wd_1301 (Or.inl ⟨rfl, rfl⟩) rfl))) (xT_l (yS (y_aload_eq _ _) (s_aload_n d134_80))))))) (xT_n (xT_n (xT_n (xT_l (yS (y_aload_eq _ _) (s_aload_n d134_81))) (xT_n (xT_l (yS (y_getf_eq _ _ _) (s_getf (T := TX12) (N := 70) d134_82 rfl inX12 (by decide) wd_1300))) (xT_l (yS (y_invV_eq _ _ _ _) (s_invV (T := TX12) d134_85 cal_132 rfl wd_1263 wd_1265 wd_44))))) (xT_n (xT_l (yS (y_aload_eq _ _) (s_aload_n d134_88))) (xT_n (xT_l (s_sipush d134_89 (by decide +kernel))) (xT_l (yS (y_aload_eq _ _) (s_aload_n d134_92)))))) (xT_n (xT_n (xT_l (yS (y_getf_eq _ _ _) (s_getf (T := TX12) (N := 70) d134_93 rfl inX12 (by decide) wd_1300))) (xT_n (xT_l (yS (y_bin_eq _ _) (s_imul d134_96))) (xT_l (yS (y_putf_eq _ _ _ _) (s_putf (T := TX12) (N := 70) (ty := tyX12) d134_97 rfl inX12 tyX12_ok nmX12 (by decide) wd_1315 (Or.inl ⟨rfl, rfl⟩) rfl))))) (xT_n (xT_n (xT_l (yS (y_aload_eq _ _) (s_aload_n d134_100))) (xT_l (s_sipush d134_101 (by decide +kernel)))) (xT_n (xT_l (yS (y_aload_eq _ _) (s_aload_n d134_104))) (xT_l (yS (y_getf_eq _ _ _) (s_getf (T := TX12) (N := 70) d134_105 rfl inX12 (by decide) wd_1300))))))))) (xT_n (xT_n (xT_n (xT_n (xT_n (xT_l (yS (y_bin_eq _ _) (s_imul d134_108))) (xT_n (xT_l (yS (y_putf_eq _ _ _ _) (s_putf (T := TX12) (N := 70) (ty := tyX12) d134_109 rfl inX12 tyX12_ok nmX12 (by decide) wd_1321 (Or.inl ⟨rfl, rfl⟩) rfl))) (xT_l (yS (y_aload_eq _ _) (s_aload_n d134_112))))) (xT_n (xT_l (yS (y_getf_eq _ _ _) (s_getf (T := TX12) (N := 70) d134_113 rfl inX12 (by decide) wd_1294))) (xT_n (xT_l (yS (y_if_eq yc1_eq _ _) (s_ifne d134_116 (by decide +kernel)))) (xT_l (yS (y_aload_eq _ _) (s_aload_n d134_119)))))) (xT_n (xT_n (xT_l (s_iconst d134_120 (by decide +kernel))) (xT_n (xT_l (yS (y_invV_eq _ _ _ _) (s_invV (T := TX12) d134_121 cal_116 rfl wd_1531 wd_1533 wd_52))) (xT_l (yS (y_if_eq yc1_eq _ _) (s_ifne d134_124 (by decide +kernel)))))) (xT_n (xT_l (yS (y_aload_eq _ _) (s_aload_n d134_134))) (xT_n (xT_l (yS (y_aload_eq _ _) (s_aload_n d134_135))) (xT_l (yS (y_getf_eq _ _ _) (s_getf (T := TX12) (N := 70) d134_136 rfl inX12 (by decide) wd_1294))))))) (xT_n (xT_n (xT_n (xT_l (yS (y_if_eq yc5_eq _ _) (s_ifle d134_139 (by decide +kernel)))) (xT_n (xT_l (yS (y_aload_eq _ _) (s_aload_n d134_149))) (xT_l (yS (y_getf_eq _ _ _) (s_getf (T := TX12) (N := 70) d134_150 rfl inX12 (by decide) wd_1296))))) (xT_n (xT_l (yS (y_if_eq yc5_eq _ _) (s_ifle d134_153 (by decide +kernel)))) (xT_n (xT_l (s_iconst d134_163 (by decide +kernel))) (xT_l (yS (y_putf_eq _ _ _ _) (s_putf (T := TX12) (N := 70) (ty := tyX12) d134_164 rfl inX12 tyX12_ok nmX12 (by decide) wd_1298 (Or.inl ⟨rfl, rfl⟩) rfl)))))) (xT_n (xT_n (xT_l (yS (y_aload_eq _ _) (s_aload_n d134_167))) (xT_n (xT_l (yS (y_getf_eq _ _ _) (s_getf (T := TX12) (N := 70) d134_168 rfl inX12 (by decide) wd_1294))) (xT_l (yS (y_if_eq yc5_eq _ _) (s_ifle d134_171 (by decide +kernel)))))) (xT_n (xT_n (xT_l (yS (y_aload_eq _ _) (s_aload_n d134_179))) (xT_l (yS (y_getf_eq _ _ _) (s_getf (T := TX12) (N := 70) d134_180 rfl inX12 (by decide) wd_1296)))) (xT_n (xT_l (yS (y_if_eq yc5_eq _ _) (s_ifle d134_183 (by decide +kernel)))) (xT_l (yS (y_aload_eq _ _) (s_aload_n d134_191)))))))) (xT_n (xT_n (xT_n (xT_n (xT_l (yS (y_aload_eq _ _) (s_aload_n d134_192))) (xT_n (xT_l (yS (y_getf_eq _ _ _) (s_getf (T := TX12) (N := 70) d134_193 rfl inX12 (by decide) wd_1300))) (xT_l (yS (y_putf_eq _ _ _ _) (s_putf (T := TX12) (N := 70) (ty := tyX12) d134_196 rfl inX12 tyX12_ok nmX12 (by decide) wd_1299 (Or.inl ⟨rfl, rfl⟩) rfl))))) (xT_n (xT_l (yS (y_aload_eq _ _) (s_aload_n d134_199))) (xT_n (xT_l (yS (y_invV_eq _ _ _ _) (s_invV (T := TX12) d134_200 cal_95 rfl wd_1274 wd_1276 wd_45))) (xT_l (yS (y_aload_eq _ _) (s_aload_n d134_203)))))) (xT_n (xT_n (xT_l (yS (y_invV_eq _ _ _ _) (s_invV (T := TX12) d134_204 cal_122 rfl wd_1278 wd_1280 wd_46))) (xT_n (xT_l (yS (y_aload_eq _ _) (s_aload_n d134_207))) (xT_l (s_iconst d134_208 (by decide +kernel))))) (xT_n (xT_n (xT_l (yS (y_putf_eq _ _ _ _) (s_putf (T := TX12) (N := 70) (ty := tyX12) d134_209 rfl inX12 tyX12_ok nmX12 (by decide) wd_1340 (Or.inl ⟨rfl, rfl⟩) rfl))) (xT_l (yS (y_aload_eq _ _) (s_aload_n d134_212)))) (xT_n (xT_l (s_iconst d134_213 (by decide +kernel))) (xT_l (yS (y_putf_eq _ _ _ _) (s_putf (T := TX12) (N := 70) (ty := tyX12) d134_214 rfl inX12 tyX12_ok nmX12 (by decide) wd_1345 (Or.inl ⟨rfl, rfl⟩) rfl))))))) (xT_n (xT_n (xT_n (xT_l (s_iconst d134_217 (by decide +kernel))) (xT_n (xT_l (yS (y_istore_eq _ _) (s_istore_n d134_218))) (xT_l (yS (y_iload_eq _ _) (s_iload_n d134_219))))) (xT_n (xT_l (s_iconst d134_220 (by decide +kernel))) (xT_n (xT_l (yS (y_icmp_eq yc3_eq _ _) (s_icmpge d134_221 (by decide +kernel)))) (xT_l (yS (y_aload_eq _ _) (s_aload_n d134_224)))))) (xT_n (xT_n (xT_l (yS (y_getf_eq _ _ _) (s_getf (T := TX12) (N := 70) d134_225 rfl inX12 (by decide) wd_1349))) (xT_n (xT_l (yS (y_iload_eq _ _) (s_iload_n d134_228))) (xT_l (s_iconst d134_229 (by decide +kernel))))) (xT_n (xT_n (xT_l (s_bast d134_230)) (xT_l (yS (y_iinc_eq _ _ _) (s_iinc d134_231 (by decide +kernel))))) (xT_n (xT_l (s_goto d134_234 (by decide +kernel))) (xT_l (s_iconst d134_237 (by decide +kernel))))))))))
set_option maxRecDepth 100000 in
set_option maxHeartbeats 4000000 in
theorem M_134 : xMeth PX 134 (T_134, 2, [(238, 1)]) := ⟨⟨"CapitalCaseModel", "read", "()I"⟩, prog_14_method_20_code, (some .int), rfl, by decide, fun G => T_134_ok G, xrt_ok (xR_c (Or.inl ⟨rfl, d134_238, rfl⟩) (xR_n))⟩
