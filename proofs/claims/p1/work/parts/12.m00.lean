theorem d0_0 : decode prog_2_method_1_code 0 = .ok (.aload_n 0, 1) := by decide +kernel
theorem d0_1 : decode prog_2_method_1_code 1 = .ok (.invokespecial 1, 3) := by decide +kernel
theorem d0_4 : decode prog_2_method_1_code 4 = .ok (.aload_n 0, 1) := by decide +kernel
theorem d0_5 : decode prog_2_method_1_code 5 = .ok (.bipush 30, 2) := by decide +kernel
theorem d0_7 : decode prog_2_method_1_code 7 = .ok (.anewarray 9, 3) := by decide +kernel
theorem d0_10 : decode prog_2_method_1_code 10 = .ok (.putfield 11, 3) := by decide +kernel
theorem d0_13 : decode prog_2_method_1_code 13 = .ok (.return_, 1) := by decide +kernel
noncomputable def T_0 : Nat → Option xF := bn 5 (bn 1 (bl 0 (y_aload 0 1)) (bn 4 (bl 1 (x_obj 4)) (bl 4 (y_aload 0 5)))) (bn 7 (bl 5 (x_const 2147483678 7)) (bn 10 (bl 7 (x_newq 10)) (bl 10 (y_putf 0 0 2 13))))
set_option maxRecDepth 100000 in
set_option maxHeartbeats 4000000 in
theorem T_0_ok (G : State → Nat → Nat → Prop) : xTree PX G prog_2_method_1_code "CapitalCase$History" true T_0 := (xT_n (xT_n (xT_l (yS (y_aload_eq _ _) (s_aload_n d0_0))) (xT_n (xT_l (s_obj d0_1 wd_381 wd_139 wd_obj)) (xT_l (yS (y_aload_eq _ _) (s_aload_n d0_4))))) (xT_n (xT_l (s_bipush d0_5 (by decide +kernel))) (xT_n (xT_l (s_newq d0_7 wd_382)) (xT_l (yS (y_putf_eq _ _ _ _) (s_putF (T := TX0) (N := 3) (ty := tyX0) d0_10 rfl inX0 tyX0_ok nmX0 (by decide) wd_384 (Or.inr (Or.inr ⟨rfl, Or.inr ⟨_, rfl⟩⟩)) rfl rfl rfl))))))
set_option maxRecDepth 100000 in
set_option maxHeartbeats 4000000 in
theorem M_0 : xMeth PX 0 (T_0, 1, [(13, 3)]) := ⟨⟨"CapitalCase$History", "<init>", "()V"⟩, prog_2_method_1_code, none, rfl, by decide, fun G => T_0_ok G, xrt_ok (xR_c (Or.inr (Or.inr (Or.inl ⟨rfl, d0_13, rfl⟩))) (xR_n))⟩
theorem d1_0 : decode prog_2_method_2_code 0 = .ok (.aload_n 0, 1) := by decide +kernel
theorem d1_1 : decode prog_2_method_2_code 1 = .ok (.getfield 11, 3) := by decide +kernel
theorem d1_4 : decode prog_2_method_2_code 4 = .ok (.aload_n 0, 1) := by decide +kernel
theorem d1_5 : decode prog_2_method_2_code 5 = .ok (.getfield 15, 3) := by decide +kernel
theorem d1_8 : decode prog_2_method_2_code 8 = .ok (.aaload, 1) := by decide +kernel
theorem d1_9 : decode prog_2_method_2_code 9 = .ok (.astore_n 2, 1) := by decide +kernel
theorem d1_10 : decode prog_2_method_2_code 10 = .ok (.aload_n 2, 1) := by decide +kernel
theorem d1_11 : decode prog_2_method_2_code 11 = .ok (.ifnonnull 21, 3) := by decide +kernel
theorem d1_14 : decode prog_2_method_2_code 14 = .ok (.new 9, 3) := by decide +kernel
theorem d1_17 : decode prog_2_method_2_code 17 = .ok (.dup, 1) := by decide +kernel
theorem d1_18 : decode prog_2_method_2_code 18 = .ok (.invokespecial 19, 3) := by decide +kernel
theorem d1_21 : decode prog_2_method_2_code 21 = .ok (.astore_n 2, 1) := by decide +kernel
theorem d1_22 : decode prog_2_method_2_code 22 = .ok (.aload_n 0, 1) := by decide +kernel
theorem d1_23 : decode prog_2_method_2_code 23 = .ok (.getfield 11, 3) := by decide +kernel
theorem d1_26 : decode prog_2_method_2_code 26 = .ok (.aload_n 0, 1) := by decide +kernel
theorem d1_27 : decode prog_2_method_2_code 27 = .ok (.getfield 15, 3) := by decide +kernel
theorem d1_30 : decode prog_2_method_2_code 30 = .ok (.aload_n 2, 1) := by decide +kernel
theorem d1_31 : decode prog_2_method_2_code 31 = .ok (.aastore, 1) := by decide +kernel
theorem d1_32 : decode prog_2_method_2_code 32 = .ok (.aload_n 2, 1) := by decide +kernel
theorem d1_33 : decode prog_2_method_2_code 33 = .ok (.aload_n 1, 1) := by decide +kernel
theorem d1_34 : decode prog_2_method_2_code 34 = .ok (.invokevirtual 20, 3) := by decide +kernel
theorem d1_37 : decode prog_2_method_2_code 37 = .ok (.aload_n 0, 1) := by decide +kernel
theorem d1_38 : decode prog_2_method_2_code 38 = .ok (.aload_n 0, 1) := by decide +kernel
theorem d1_39 : decode prog_2_method_2_code 39 = .ok (.getfield 15, 3) := by decide +kernel
theorem d1_42 : decode prog_2_method_2_code 42 = .ok (.iconst 1, 1) := by decide +kernel
theorem d1_43 : decode prog_2_method_2_code 43 = .ok (.iadd, 1) := by decide +kernel
theorem d1_44 : decode prog_2_method_2_code 44 = .ok (.bipush 30, 2) := by decide +kernel
theorem d1_46 : decode prog_2_method_2_code 46 = .ok (.irem, 1) := by decide +kernel
theorem d1_47 : decode prog_2_method_2_code 47 = .ok (.putfield 15, 3) := by decide +kernel
theorem d1_50 : decode prog_2_method_2_code 50 = .ok (.aload_n 0, 1) := by decide +kernel
theorem d1_51 : decode prog_2_method_2_code 51 = .ok (.bipush 30, 2) := by decide +kernel
theorem d1_53 : decode prog_2_method_2_code 53 = .ok (.aload_n 0, 1) := by decide +kernel
theorem d1_54 : decode prog_2_method_2_code 54 = .ok (.getfield 24, 3) := by decide +kernel
theorem d1_57 : decode prog_2_method_2_code 57 = .ok (.iconst 1, 1) := by decide +kernel
theorem d1_58 : decode prog_2_method_2_code 58 = .ok (.iadd, 1) := by decide +kernel
theorem d1_59 : decode prog_2_method_2_code 59 = .ok (.invokestatic 27, 3) := by decide +kernel
theorem d1_62 : decode prog_2_method_2_code 62 = .ok (.putfield 24, 3) := by decide +kernel
theorem d1_65 : decode prog_2_method_2_code 65 = .ok (.return_, 1) := by decide +kernel
noncomputable def T_1 : Nat → Option xF := bn 32 (bn 17 (bn 8 (bn 4 (bn 1 (bl 0 (y_aload 0 1)) (bl 1 (y_getf 0 0 4))) (bn 5 (bl 4 (y_aload 0 5)) (bl 5 (y_getf 0 1 8)))) (bn 10 (bn 9 (bl 8 (x_aald 9)) (bl 9 (x_astore 2 10))) (bn 11 (bl 10 (x_aloadz 2 11)) (bn 14 (bl 11 (x_ifnonnull 32 14)) (bl 14 (x_new 8 10 [.inr (.inl none), .inr (.inl none), .inr (.inl none), .inr (.inl none), .inr (.inl none), .inl (2147483648, 2147483648), .inl (2147483648, 2147483648), .inl (2147483648, 2147483648), .inl (2147483648, 2147483648), .inl (2147483648, 2147483648)] 17)))))) (bn 23 (bn 21 (bn 18 (bl 17 (x_dup 18)) (bl 18 (y_invV 8 31 1 21))) (bn 22 (bl 21 (x_astore 2 22)) (bl 22 (y_aload 0 23)))) (bn 27 (bn 26 (bl 23 (y_getf 0 0 26)) (bl 26 (y_aload 0 27))) (bn 30 (bl 27 (y_getf 0 1 30)) (bn 31 (bl 30 (y_aload 2 31)) (bl 31 (x_aast 8 32))))))) (bn 46 (bn 38 (bn 34 (bn 33 (bl 32 (y_aload 2 33)) (bl 33 (y_aload 1 34))) (bn 37 (bl 34 (y_invV 8 32 2 37)) (bl 37 (y_aload 0 38)))) (bn 42 (bn 39 (bl 38 (y_aload 0 39)) (bl 39 (y_getf 0 1 42))) (bn 43 (bl 42 (x_const 2147483649 43)) (bn 44 (bl 43 (y_bin yadd 44)) (bl 44 (x_const 2147483678 46)))))) (bn 54 (bn 50 (bn 47 (bl 46 (x_rem 47)) (bl 47 (y_putf 0 1 0 50))) (bn 51 (bl 50 (y_aload 0 51)) (bn 53 (bl 51 (x_const 2147483678 53)) (bl 53 (y_aload 0 54))))) (bn 58 (bn 57 (bl 54 (y_getf 0 2 57)) (bl 57 (x_const 2147483649 58))) (bn 59 (bl 58 (y_bin yadd 59)) (bn 62 (bl 59 (x_math xfmin 62)) (bl 62 (y_putf 0 2 0 65)))))))
set_option maxRecDepth 100000 in
set_option maxHeartbeats 4000000 in
theorem T_1_ok (G : State → Nat → Nat → Prop) : xTree PX G prog_2_method_2_code "CapitalCase$History" false T_1 := (xT_n (xT_n (xT_n (xT_n (xT_n (xT_l (yS (y_aload_eq _ _) (s_aload_n d1_0))) (xT_l (yS (y_getf_eq _ _ _) (s_getf (T := TX0) (N := 3) d1_1 rfl inX0 (by decide) wd_384)))) (xT_n (xT_l (yS (y_aload_eq _ _) (s_aload_n d1_4))) (xT_l (yS (y_getf_eq _ _ _) (s_getf (T := TX0) (N := 3) d1_5 rfl inX0 (by decide) wd_385))))) (xT_n (xT_n (xT_l (s_aald d1_8)) (xT_l (s_astore_n d1_9))) (xT_n (xT_l (s_aloadz_n d1_10)) (xT_n (xT_l (s_ifnonnull d1_11 (by decide +kernel))) (xT_l (s_new (T := TX8) (ty := tyX8) d1_14 rfl inX8 tyX8_ok (by decide) (by decide) wd_382 wd_315 wd_116)))))) (xT_n (xT_n (xT_n (xT_l (s_dup d1_17)) (xT_l (yS (y_invV_eq _ _ _ _) (s_invIN (host := "CapitalCase") d1_18 cal_31 (by decide +kernel) wd_317 rfl)))) (xT_n (xT_l (s_astore_n d1_21)) (xT_l (yS (y_aload_eq _ _) (s_aload_n d1_22))))) (xT_n (xT_n (xT_l (yS (y_getf_eq _ _ _) (s_getf (T := TX0) (N := 3) d1_23 rfl inX0 (by decide) wd_384))) (xT_l (yS (y_aload_eq _ _) (s_aload_n d1_26)))) (xT_n (xT_l (yS (y_getf_eq _ _ _) (s_getf (T := TX0) (N := 3) d1_27 rfl inX0 (by decide) wd_385))) (xT_n (xT_l (yS (y_aload_eq _ _) (s_aload_n d1_30))) (xT_l (s_aast (T := TX8) d1_31 rfl))))))) (xT_n (xT_n (xT_n (xT_n (xT_l (yS (y_aload_eq _ _) (s_aload_n d1_32))) (xT_l (yS (y_aload_eq _ _) (s_aload_n d1_33)))) (xT_n (xT_l (yS (y_invV_eq _ _ _ _) (s_invV (T := TX8) d1_34 cal_32 rfl wd_972 wd_973 wd_974))) (xT_l (yS (y_aload_eq _ _) (s_aload_n d1_37))))) (xT_n (xT_n (xT_l (yS (y_aload_eq _ _) (s_aload_n d1_38))) (xT_l (yS (y_getf_eq _ _ _) (s_getf (T := TX0) (N := 3) d1_39 rfl inX0 (by decide) wd_385)))) (xT_n (xT_l (s_iconst d1_42 (by decide +kernel))) (xT_n (xT_l (yS (y_bin_eq _ _) (s_iadd d1_43))) (xT_l (s_bipush d1_44 (by decide +kernel))))))) (xT_n (xT_n (xT_n (xT_l (s_irem d1_46)) (xT_l (yS (y_putf_eq _ _ _ _) (s_putf (T := TX0) (N := 3) (ty := tyX0) d1_47 rfl inX0 tyX0_ok nmX0 (by decide) wd_385 (Or.inl ⟨rfl, rfl⟩) rfl)))) (xT_n (xT_l (yS (y_aload_eq _ _) (s_aload_n d1_50))) (xT_n (xT_l (s_bipush d1_51 (by decide +kernel))) (xT_l (yS (y_aload_eq _ _) (s_aload_n d1_53)))))) (xT_n (xT_n (xT_l (yS (y_getf_eq _ _ _) (s_getf (T := TX0) (N := 3) d1_54 rfl inX0 (by decide) wd_386))) (xT_l (s_iconst d1_57 (by decide +kernel)))) (xT_n (xT_l (yS (y_bin_eq _ _) (s_iadd d1_58))) (xT_n (xT_l (s_min d1_59 wd_976 wd_716 wd_129 wd_min)) (xT_l (yS (y_putf_eq _ _ _ _) (s_putf (T := TX0) (N := 3) (ty := tyX0) d1_62 rfl inX0 tyX0_ok nmX0 (by decide) wd_386 (Or.inl ⟨rfl, rfl⟩) rfl)))))))))
set_option maxRecDepth 100000 in
set_option maxHeartbeats 4000000 in
theorem M_1 : xMeth PX 1 (T_1, 3, [(65, 3)]) := ⟨⟨"CapitalCase$History", "keep", "(LCapitalCase$Town;)V"⟩, prog_2_method_2_code, none, rfl, by decide, fun G => T_1_ok G, xrt_ok (xR_c (Or.inr (Or.inr (Or.inl ⟨rfl, d1_65, rfl⟩))) (xR_n))⟩
theorem d2_0 : decode prog_2_method_3_code 0 = .ok (.aload_n 0, 1) := by decide +kernel
theorem d2_1 : decode prog_2_method_3_code 1 = .ok (.getfield 15, 3) := by decide +kernel
theorem d2_4 : decode prog_2_method_3_code 4 = .ok (.bipush 30, 2) := by decide +kernel
theorem d2_6 : decode prog_2_method_3_code 6 = .ok (.iadd, 1) := by decide +kernel
theorem d2_7 : decode prog_2_method_3_code 7 = .ok (.iconst 1, 1) := by decide +kernel
theorem d2_8 : decode prog_2_method_3_code 8 = .ok (.isub, 1) := by decide +kernel
theorem d2_9 : decode prog_2_method_3_code 9 = .ok (.bipush 30, 2) := by decide +kernel
theorem d2_11 : decode prog_2_method_3_code 11 = .ok (.irem, 1) := by decide +kernel
theorem d2_12 : decode prog_2_method_3_code 12 = .ok (.istore_n 2, 1) := by decide +kernel
theorem d2_13 : decode prog_2_method_3_code 13 = .ok (.aload_n 0, 1) := by decide +kernel
theorem d2_14 : decode prog_2_method_3_code 14 = .ok (.getfield 11, 3) := by decide +kernel
theorem d2_17 : decode prog_2_method_3_code 17 = .ok (.iload_n 2, 1) := by decide +kernel
theorem d2_18 : decode prog_2_method_3_code 18 = .ok (.aaload, 1) := by decide +kernel
theorem d2_19 : decode prog_2_method_3_code 19 = .ok (.astore_n 3, 1) := by decide +kernel
theorem d2_20 : decode prog_2_method_3_code 20 = .ok (.aload_n 0, 1) := by decide +kernel
theorem d2_21 : decode prog_2_method_3_code 21 = .ok (.getfield 24, 3) := by decide +kernel
theorem d2_24 : decode prog_2_method_3_code 24 = .ok (.ifCond .eq 7, 3) := by decide +kernel
theorem d2_31 : decode prog_2_method_3_code 31 = .ok (.iconst 0, 1) := by decide +kernel
theorem d2_32 : decode prog_2_method_3_code 32 = .ok (.ireturn, 1) := by decide +kernel
noncomputable def T_2 : Nat → Option xF := bn 13 (bn 7 (bn 4 (bn 1 (bl 0 (y_aload 0 1)) (bl 1 (y_getf 0 1 4))) (bn 6 (bl 4 (x_const 2147483678 6)) (bl 6 (y_bin yadd 7)))) (bn 9 (bn 8 (bl 7 (x_const 2147483649 8)) (bl 8 (y_bin ysub 9))) (bn 11 (bl 9 (x_const 2147483678 11)) (bn 12 (bl 11 (x_rem 12)) (bl 12 (y_istore 2 13)))))) (bn 19 (bn 17 (bn 14 (bl 13 (y_aload 0 14)) (bl 14 (y_getf 0 0 17))) (bn 18 (bl 17 (y_iload 2 18)) (bl 18 (x_aald 19)))) (bn 21 (bn 20 (bl 19 (x_astore 3 20)) (bl 20 (y_aload 0 21))) (bn 24 (bl 21 (y_getf 0 2 24)) (bn 31 (bl 24 (y_if yc0 31 27)) (bl 31 (x_const 2147483648 32))))))
set_option maxRecDepth 100000 in
set_option maxHeartbeats 4000000 in
theorem T_2_ok (G : State → Nat → Nat → Prop) : xTree PX G prog_2_method_3_code "CapitalCase$History" false T_2 := (xT_n (xT_n (xT_n (xT_n (xT_l (yS (y_aload_eq _ _) (s_aload_n d2_0))) (xT_l (yS (y_getf_eq _ _ _) (s_getf (T := TX0) (N := 3) d2_1 rfl inX0 (by decide) wd_385)))) (xT_n (xT_l (s_bipush d2_4 (by decide +kernel))) (xT_l (yS (y_bin_eq _ _) (s_iadd d2_6))))) (xT_n (xT_n (xT_l (s_iconst d2_7 (by decide +kernel))) (xT_l (yS (y_bin_eq _ _) (s_isub d2_8)))) (xT_n (xT_l (s_bipush d2_9 (by decide +kernel))) (xT_n (xT_l (s_irem d2_11)) (xT_l (yS (y_istore_eq _ _) (s_istore_n d2_12))))))) (xT_n (xT_n (xT_n (xT_l (yS (y_aload_eq _ _) (s_aload_n d2_13))) (xT_l (yS (y_getf_eq _ _ _) (s_getf (T := TX0) (N := 3) d2_14 rfl inX0 (by decide) wd_384)))) (xT_n (xT_l (yS (y_iload_eq _ _) (s_iload_n d2_17))) (xT_l (s_aald d2_18)))) (xT_n (xT_n (xT_l (s_astore_n d2_19)) (xT_l (yS (y_aload_eq _ _) (s_aload_n d2_20)))) (xT_n (xT_l (yS (y_getf_eq _ _ _) (s_getf (T := TX0) (N := 3) d2_21 rfl inX0 (by decide) wd_386))) (xT_n (xT_l (yS (y_if_eq yc0_eq _ _) (s_ifeq d2_24 (by decide +kernel)))) (xT_l (s_iconst d2_31 (by decide +kernel))))))))
set_option maxRecDepth 100000 in
set_option maxHeartbeats 4000000 in
theorem M_2 : xMeth PX 2 (T_2, 4, [(32, 2)]) := ⟨⟨"CapitalCase$History", "takeBack", "(LCapitalCase$Town;)Z"⟩, prog_2_method_3_code, (some .boolean), rfl, by decide, fun G => T_2_ok G, xrt_ok (xR_c (Or.inr (Or.inl ⟨rfl, d2_32, rfl⟩)) (xR_n))⟩
theorem d3_0 : decode prog_3_method_1_code 0 = .ok (.aload_n 0, 1) := by decide +kernel
theorem d3_1 : decode prog_3_method_1_code 1 = .ok (.invokespecial 3, 3) := by decide +kernel
theorem d3_4 : decode prog_3_method_1_code 4 = .ok (.aload_n 0, 1) := by decide +kernel
theorem d3_5 : decode prog_3_method_1_code 5 = .ok (.bipush 9, 2) := by decide +kernel
theorem d3_7 : decode prog_3_method_1_code 7 = .ok (.newarray .int, 2) := by decide +kernel
theorem d3_9 : decode prog_3_method_1_code 9 = .ok (.putfield 11, 3) := by decide +kernel
theorem d3_12 : decode prog_3_method_1_code 12 = .ok (.aload_n 0, 1) := by decide +kernel
theorem d3_13 : decode prog_3_method_1_code 13 = .ok (.bipush 16, 2) := by decide +kernel
theorem d3_15 : decode prog_3_method_1_code 15 = .ok (.newarray .int, 2) := by decide +kernel
theorem d3_17 : decode prog_3_method_1_code 17 = .ok (.putfield 15, 3) := by decide +kernel
theorem d3_20 : decode prog_3_method_1_code 20 = .ok (.aload_n 0, 1) := by decide +kernel
theorem d3_21 : decode prog_3_method_1_code 21 = .ok (.aload_n 1, 1) := by decide +kernel
theorem d3_22 : decode prog_3_method_1_code 22 = .ok (.putfield 18, 3) := by decide +kernel
theorem d3_25 : decode prog_3_method_1_code 25 = .ok (.return_, 1) := by decide +kernel
noncomputable def T_3 : Nat → Option xF := bn 12 (bn 5 (bn 1 (bl 0 (y_aload 0 1)) (bn 4 (bl 1 (x_obj 4)) (bl 4 (y_aload 0 5)))) (bn 7 (bl 5 (x_const 2147483657 7)) (bn 9 (bl 7 (x_newa 0 9)) (bl 9 (y_putf 1 1 2 12))))) (bn 17 (bn 13 (bl 12 (y_aload 0 13)) (bn 15 (bl 13 (x_const 2147483664 15)) (bl 15 (x_newa 0 17)))) (bn 21 (bn 20 (bl 17 (y_putf 1 2 2 20)) (bl 20 (y_aload 0 21))) (bn 22 (bl 21 (y_aload 1 22)) (bl 22 (y_putf 1 0 2 25)))))
set_option maxRecDepth 100000 in
set_option maxHeartbeats 4000000 in
theorem T_3_ok (G : State → Nat → Nat → Prop) : xTree PX G prog_3_method_1_code "CapitalCase$Judge" true T_3 := (xT_n (xT_n (xT_n (xT_l (yS (y_aload_eq _ _) (s_aload_n d3_0))) (xT_n (xT_l (s_obj d3_1 wd_421 wd_139 wd_obj)) (xT_l (yS (y_aload_eq _ _) (s_aload_n d3_4))))) (xT_n (xT_l (s_bipush d3_5 (by decide +kernel))) (xT_n (xT_l (s_newa (ty := .int) d3_7 rfl rfl wd_253 (by decide) (fun _ _ => rfl) (Or.inl ⟨by decide, rfl⟩))) (xT_l (yS (y_putf_eq _ _ _ _) (s_putF (T := TX1) (N := 3) (ty := tyX1) d3_9 rfl inX1 tyX1_ok nmX1 (by decide) wd_423 (Or.inr (Or.inr ⟨rfl, Or.inr ⟨_, rfl⟩⟩)) rfl rfl rfl)))))) (xT_n (xT_n (xT_l (yS (y_aload_eq _ _) (s_aload_n d3_12))) (xT_n (xT_l (s_bipush d3_13 (by decide +kernel))) (xT_l (s_newa (ty := .int) d3_15 rfl rfl wd_253 (by decide) (fun _ _ => rfl) (Or.inl ⟨by decide, rfl⟩))))) (xT_n (xT_n (xT_l (yS (y_putf_eq _ _ _ _) (s_putF (T := TX1) (N := 3) (ty := tyX1) d3_17 rfl inX1 tyX1_ok nmX1 (by decide) wd_424 (Or.inr (Or.inr ⟨rfl, Or.inr ⟨_, rfl⟩⟩)) rfl rfl rfl))) (xT_l (yS (y_aload_eq _ _) (s_aload_n d3_20)))) (xT_n (xT_l (yS (y_aload_eq _ _) (s_aload_n d3_21))) (xT_l (yS (y_putf_eq _ _ _ _) (s_putF (T := TX1) (N := 3) (ty := tyX1) d3_22 rfl inX1 tyX1_ok nmX1 (by decide) wd_422 (Or.inr (Or.inr ⟨rfl, Or.inl ⟨_, rfl⟩⟩)) rfl rfl rfl)))))))
set_option maxRecDepth 100000 in
set_option maxHeartbeats 4000000 in
theorem M_3 : xMeth PX 3 (T_3, 2, [(25, 3)]) := ⟨⟨"CapitalCase$Judge", "<init>", "(LCapitalCase$Script;)V"⟩, prog_3_method_1_code, none, rfl, by decide, fun G => T_3_ok G, xrt_ok (xR_c (Or.inr (Or.inr (Or.inl ⟨rfl, d3_25, rfl⟩))) (xR_n))⟩
theorem d4_0 : decode prog_4_method_1_code 0 = .ok (.aload_n 0, 1) := by decide +kernel
theorem d4_1 : decode prog_4_method_1_code 1 = .ok (.invokespecial 3, 3) := by decide +kernel
theorem d4_4 : decode prog_4_method_1_code 4 = .ok (.aload_n 0, 1) := by decide +kernel
theorem d4_5 : decode prog_4_method_1_code 5 = .ok (.new 9, 3) := by decide +kernel
theorem d4_8 : decode prog_4_method_1_code 8 = .ok (.dup, 1) := by decide +kernel
theorem d4_9 : decode prog_4_method_1_code 9 = .ok (.invokespecial 11, 3) := by decide +kernel
theorem d4_12 : decode prog_4_method_1_code 12 = .ok (.putfield 12, 3) := by decide +kernel
theorem d4_15 : decode prog_4_method_1_code 15 = .ok (.aload_n 0, 1) := by decide +kernel
theorem d4_16 : decode prog_4_method_1_code 16 = .ok (.new 18, 3) := by decide +kernel
theorem d4_19 : decode prog_4_method_1_code 19 = .ok (.dup, 1) := by decide +kernel
theorem d4_20 : decode prog_4_method_1_code 20 = .ok (.invokespecial 20, 3) := by decide +kernel
theorem d4_23 : decode prog_4_method_1_code 23 = .ok (.putfield 21, 3) := by decide +kernel
theorem d4_26 : decode prog_4_method_1_code 26 = .ok (.aload_n 0, 1) := by decide +kernel
theorem d4_27 : decode prog_4_method_1_code 27 = .ok (.bipush 12, 2) := by decide +kernel
theorem d4_29 : decode prog_4_method_1_code 29 = .ok (.newarray .int, 2) := by decide +kernel
theorem d4_31 : decode prog_4_method_1_code 31 = .ok (.putfield 25, 3) := by decide +kernel
theorem d4_34 : decode prog_4_method_1_code 34 = .ok (.aload_n 0, 1) := by decide +kernel
theorem d4_35 : decode prog_4_method_1_code 35 = .ok (.aload_n 1, 1) := by decide +kernel
theorem d4_36 : decode prog_4_method_1_code 36 = .ok (.putfield 29, 3) := by decide +kernel
theorem d4_39 : decode prog_4_method_1_code 39 = .ok (.return_, 1) := by decide +kernel
noncomputable def T_4 : Nat → Option xF := bn 19 (bn 8 (bn 4 (bn 1 (bl 0 (y_aload 0 1)) (bl 1 (x_obj 4))) (bn 5 (bl 4 (y_aload 0 5)) (bl 5 (x_new 6 15 [.inl (2147483648, 2147483648), .inl (2147483648, 2147483648), .inl (2147483648, 2147483648), .inl (2147483648, 2147483648), .inl (2147483648, 2147483648), .inr (.inl none), .inr (.inl none), .inr (.inl none), .inr (.inl none), .inr (.inl none), .inr (.inl none), .inr (.inl none), .inr (.inl none), .inr (.inl none), .inl (2147483648, 2147483648)] 8)))) (bn 12 (bn 9 (bl 8 (x_dup 9)) (bl 9 (y_invV 6 24 1 12))) (bn 15 (bl 12 (y_putf 2 0 2 15)) (bn 16 (bl 15 (y_aload 0 16)) (bl 16 (x_new 7 3 [.inr (.inl none), .inr (.inl none), .inr (.inl none)] 19)))))) (bn 29 (bn 23 (bn 20 (bl 19 (x_dup 20)) (bl 20 (y_invV 7 29 1 23))) (bn 26 (bl 23 (y_putf 2 1 2 26)) (bn 27 (bl 26 (y_aload 0 27)) (bl 27 (x_const 2147483660 29))))) (bn 34 (bn 31 (bl 29 (x_newa 0 31)) (bl 31 (y_putf 2 8 2 34))) (bn 35 (bl 34 (y_aload 0 35)) (bn 36 (bl 35 (y_aload 1 36)) (bl 36 (y_putf 2 2 2 39))))))
set_option maxRecDepth 100000 in
set_option maxHeartbeats 4000000 in
theorem T_4_ok (G : State → Nat → Nat → Prop) : xTree PX G prog_4_method_1_code "CapitalCase$Parser" true T_4 := (xT_n (xT_n (xT_n (xT_n (xT_l (yS (y_aload_eq _ _) (s_aload_n d4_0))) (xT_l (s_obj d4_1 wd_259 wd_139 wd_obj))) (xT_n (xT_l (yS (y_aload_eq _ _) (s_aload_n d4_4))) (xT_l (s_new (T := TX6) (ty := tyX6) d4_5 rfl inX6 tyX6_ok (by decide) (by decide) wd_260 wd_142 wd_112)))) (xT_n (xT_n (xT_l (s_dup d4_8)) (xT_l (yS (y_invV_eq _ _ _ _) (s_invI d4_9 cal_24 wd_261 wd_144 rfl)))) (xT_n (xT_l (yS (y_putf_eq _ _ _ _) (s_putF (T := TX2) (N := 10) (ty := tyX2) d4_12 rfl inX2 tyX2_ok nmX2 (by decide) wd_281 (Or.inr (Or.inr ⟨rfl, Or.inl ⟨_, rfl⟩⟩)) rfl rfl rfl))) (xT_n (xT_l (yS (y_aload_eq _ _) (s_aload_n d4_15))) (xT_l (s_new (T := TX7) (ty := tyX7) d4_16 rfl inX7 tyX7_ok (by decide) (by decide) wd_262 wd_263 wd_115)))))) (xT_n (xT_n (xT_n (xT_l (s_dup d4_19)) (xT_l (yS (y_invV_eq _ _ _ _) (s_invIN (host := "CapitalCase") d4_20 cal_29 (by decide +kernel) wd_265 rfl)))) (xT_n (xT_l (yS (y_putf_eq _ _ _ _) (s_putF (T := TX2) (N := 10) (ty := tyX2) d4_23 rfl inX2 tyX2_ok nmX2 (by decide) wd_283 (Or.inr (Or.inr ⟨rfl, Or.inl ⟨_, rfl⟩⟩)) rfl rfl rfl))) (xT_n (xT_l (yS (y_aload_eq _ _) (s_aload_n d4_26))) (xT_l (s_bipush d4_27 (by decide +kernel)))))) (xT_n (xT_n (xT_l (s_newa (ty := .int) d4_29 rfl rfl wd_253 (by decide) (fun _ _ => rfl) (Or.inl ⟨by decide, rfl⟩))) (xT_l (yS (y_putf_eq _ _ _ _) (s_putF (T := TX2) (N := 10) (ty := tyX2) d4_31 rfl inX2 tyX2_ok nmX2 (by decide) wd_291 (Or.inr (Or.inr ⟨rfl, Or.inr ⟨_, rfl⟩⟩)) rfl rfl rfl)))) (xT_n (xT_l (yS (y_aload_eq _ _) (s_aload_n d4_34))) (xT_n (xT_l (yS (y_aload_eq _ _) (s_aload_n d4_35))) (xT_l (yS (y_putf_eq _ _ _ _) (s_putF (T := TX2) (N := 10) (ty := tyX2) d4_36 rfl inX2 tyX2_ok nmX2 (by decide) wd_284 (Or.inr (Or.inr ⟨rfl, Or.inr ⟨_, rfl⟩⟩)) rfl rfl rfl))))))))
set_option maxRecDepth 100000 in
set_option maxHeartbeats 4000000 in
theorem M_4 : xMeth PX 4 (T_4, 2, [(39, 3)]) := ⟨⟨"CapitalCase$Parser", "<init>", "([B)V"⟩, prog_4_method_1_code, none, rfl, by decide, fun G => T_4_ok G, xrt_ok (xR_c (Or.inr (Or.inr (Or.inl ⟨rfl, d4_39, rfl⟩))) (xR_n))⟩
theorem d5_0 : decode prog_4_method_3_code 0 = .ok (.aload_n 0, 1) := by decide +kernel
theorem d5_1 : decode prog_4_method_3_code 1 = .ok (.getfield 40, 3) := by decide +kernel
theorem d5_4 : decode prog_4_method_3_code 4 = .ok (.sipush 400, 3) := by decide +kernel
theorem d5_7 : decode prog_4_method_3_code 7 = .ok (.if_icmp .gt 18, 3) := by decide +kernel
theorem d5_10 : decode prog_4_method_3_code 10 = .ok (.aload_n 0, 1) := by decide +kernel
theorem d5_11 : decode prog_4_method_3_code 11 = .ok (.getfield 21, 3) := by decide +kernel
theorem d5_14 : decode prog_4_method_3_code 14 = .ok (.getfield 80, 3) := by decide +kernel
theorem d5_17 : decode prog_4_method_3_code 17 = .ok (.aload_n 0, 1) := by decide +kernel
theorem d5_18 : decode prog_4_method_3_code 18 = .ok (.getfield 40, 3) := by decide +kernel
theorem d5_21 : decode prog_4_method_3_code 21 = .ok (.iaload, 1) := by decide +kernel
theorem d5_22 : decode prog_4_method_3_code 22 = .ok (.goto 4, 3) := by decide +kernel
theorem d5_26 : decode prog_4_method_3_code 26 = .ok (.ireturn, 1) := by decide +kernel
noncomputable def T_5 : Nat → Option xF := bn 11 (bn 4 (bn 1 (bl 0 (y_aload 0 1)) (bl 1 (y_getf 2 3 4))) (bn 7 (bl 4 (x_const 2147484048 7)) (bn 10 (bl 7 (y_icmp yc4 25 10)) (bl 10 (y_aload 0 11))))) (bn 18 (bn 14 (bl 11 (y_getf 2 1 14)) (bn 17 (bl 14 (y_getf 7 0 17)) (bl 17 (y_aload 0 18)))) (bn 21 (bl 18 (y_getf 2 3 21)) (bn 22 (bl 21 (y_iald 22)) (bl 22 (x_goto 26)))))
set_option maxRecDepth 100000 in
set_option maxHeartbeats 4000000 in
theorem T_5_ok (G : State → Nat → Nat → Prop) : xTree PX G prog_4_method_3_code "CapitalCase$Parser" false T_5 := (xT_n (xT_n (xT_n (xT_l (yS (y_aload_eq _ _) (s_aload_n d5_0))) (xT_l (yS (y_getf_eq _ _ _) (s_getf (T := TX2) (N := 10) d5_1 rfl inX2 (by decide) wd_285)))) (xT_n (xT_l (s_sipush d5_4 (by decide +kernel))) (xT_n (xT_l (yS (y_icmp_eq yc4_eq _ _) (s_icmpgt d5_7 (by decide +kernel)))) (xT_l (yS (y_aload_eq _ _) (s_aload_n d5_10)))))) (xT_n (xT_n (xT_l (yS (y_getf_eq _ _ _) (s_getf (T := TX2) (N := 10) d5_11 rfl inX2 (by decide) wd_283))) (xT_n (xT_l (yS (y_getf_eq _ _ _) (s_getf (T := TX7) (N := 3) d5_14 rfl inX7 (by decide) wd_269))) (xT_l (yS (y_aload_eq _ _) (s_aload_n d5_17))))) (xT_n (xT_l (yS (y_getf_eq _ _ _) (s_getf (T := TX2) (N := 10) d5_18 rfl inX2 (by decide) wd_285))) (xT_n (xT_l (yS (y_iald_eq _) (s_iald d5_21))) (xT_l (s_goto d5_22 (by decide +kernel)))))))
set_option maxRecDepth 100000 in
set_option maxHeartbeats 4000000 in
theorem M_5 : xMeth PX 5 (T_5, 1, [(26, 1)]) := ⟨⟨"CapitalCase$Parser", "next", "()I"⟩, prog_4_method_3_code, (some .int), rfl, by decide, fun G => T_5_ok G, xrt_ok (xR_c (Or.inl ⟨rfl, d5_26, rfl⟩) (xR_n))⟩
theorem d6_0 : decode prog_4_method_2_code 0 = .ok (.aload_n 0, 1) := by decide +kernel
theorem d6_1 : decode prog_4_method_2_code 1 = .ok (.getfield 12, 3) := by decide +kernel
theorem d6_4 : decode prog_4_method_2_code 4 = .ok (.invokevirtual 33, 3) := by decide +kernel
theorem d6_7 : decode prog_4_method_2_code 7 = .ok (.aload_n 0, 1) := by decide +kernel
theorem d6_8 : decode prog_4_method_2_code 8 = .ok (.getfield 21, 3) := by decide +kernel
theorem d6_11 : decode prog_4_method_2_code 11 = .ok (.aload_n 0, 1) := by decide +kernel
theorem d6_12 : decode prog_4_method_2_code 12 = .ok (.getfield 29, 3) := by decide +kernel
theorem d6_15 : decode prog_4_method_2_code 15 = .ok (.iload_n 1, 1) := by decide +kernel
theorem d6_16 : decode prog_4_method_2_code 16 = .ok (.invokevirtual 36, 3) := by decide +kernel
theorem d6_19 : decode prog_4_method_2_code 19 = .ok (.aload_n 0, 1) := by decide +kernel
theorem d6_20 : decode prog_4_method_2_code 20 = .ok (.iconst 0, 1) := by decide +kernel
theorem d6_21 : decode prog_4_method_2_code 21 = .ok (.putfield 40, 3) := by decide +kernel
theorem d6_24 : decode prog_4_method_2_code 24 = .ok (.aload_n 0, 1) := by decide +kernel
theorem d6_25 : decode prog_4_method_2_code 25 = .ok (.iconst 0, 1) := by decide +kernel
theorem d6_26 : decode prog_4_method_2_code 26 = .ok (.putfield 44, 3) := by decide +kernel
theorem d6_29 : decode prog_4_method_2_code 29 = .ok (.aload_n 0, 1) := by decide +kernel
theorem d6_30 : decode prog_4_method_2_code 30 = .ok (.iconst 0, 1) := by decide +kernel
theorem d6_31 : decode prog_4_method_2_code 31 = .ok (.putfield 47, 3) := by decide +kernel
theorem d6_34 : decode prog_4_method_2_code 34 = .ok (.aload_n 0, 1) := by decide +kernel
theorem d6_35 : decode prog_4_method_2_code 35 = .ok (.iconst 0, 1) := by decide +kernel
theorem d6_36 : decode prog_4_method_2_code 36 = .ok (.putfield 50, 3) := by decide +kernel
theorem d6_39 : decode prog_4_method_2_code 39 = .ok (.iconst 0, 1) := by decide +kernel
theorem d6_40 : decode prog_4_method_2_code 40 = .ok (.istore_n 2, 1) := by decide +kernel
theorem d6_41 : decode prog_4_method_2_code 41 = .ok (.iload_n 2, 1) := by decide +kernel
theorem d6_42 : decode prog_4_method_2_code 42 = .ok (.sipush 400, 3) := by decide +kernel
theorem d6_45 : decode prog_4_method_2_code 45 = .ok (.if_icmp .gt 140, 3) := by decide +kernel
theorem d6_48 : decode prog_4_method_2_code 48 = .ok (.aload_n 0, 1) := by decide +kernel
theorem d6_49 : decode prog_4_method_2_code 49 = .ok (.getfield 44, 3) := by decide +kernel
theorem d6_52 : decode prog_4_method_2_code 52 = .ok (.ifCond .ne 133, 3) := by decide +kernel
theorem d6_55 : decode prog_4_method_2_code 55 = .ok (.aload_n 0, 1) := by decide +kernel
theorem d6_56 : decode prog_4_method_2_code 56 = .ok (.invokevirtual 53, 3) := by decide +kernel
theorem d6_59 : decode prog_4_method_2_code 59 = .ok (.ifCond .eq 126, 3) := by decide +kernel
theorem d6_185 : decode prog_4_method_2_code 185 = .ok (.aload_n 0, 1) := by decide +kernel
theorem d6_186 : decode prog_4_method_2_code 186 = .ok (.getfield 44, 3) := by decide +kernel
theorem d6_189 : decode prog_4_method_2_code 189 = .ok (.ifCond .ne 19, 3) := by decide +kernel
theorem d6_192 : decode prog_4_method_2_code 192 = .ok (.aload_n 0, 1) := by decide +kernel
theorem d6_193 : decode prog_4_method_2_code 193 = .ok (.aload_n 0, 1) := by decide +kernel
theorem d6_194 : decode prog_4_method_2_code 194 = .ok (.getfield 47, 3) := by decide +kernel
theorem d6_197 : decode prog_4_method_2_code 197 = .ok (.putfield 44, 3) := by decide +kernel
theorem d6_200 : decode prog_4_method_2_code 200 = .ok (.aload_n 0, 1) := by decide +kernel
theorem d6_201 : decode prog_4_method_2_code 201 = .ok (.aload_n 0, 1) := by decide +kernel
theorem d6_202 : decode prog_4_method_2_code 202 = .ok (.getfield 74, 3) := by decide +kernel
theorem d6_205 : decode prog_4_method_2_code 205 = .ok (.putfield 77, 3) := by decide +kernel
theorem d6_208 : decode prog_4_method_2_code 208 = .ok (.aload_n 0, 1) := by decide +kernel
theorem d6_209 : decode prog_4_method_2_code 209 = .ok (.getfield 44, 3) := by decide +kernel
theorem d6_212 : decode prog_4_method_2_code 212 = .ok (.ireturn, 1) := by decide +kernel
noncomputable def T_6 : Nat → Option xF := bn 40 (bn 21 (bn 11 (bn 4 (bn 1 (bl 0 (y_aload 0 1)) (bl 1 (y_getf 2 0 4))) (bn 7 (bl 4 (y_invV 6 28 1 7)) (bn 8 (bl 7 (y_aload 0 8)) (bl 8 (y_getf 2 1 11))))) (bn 16 (bn 12 (bl 11 (y_aload 0 12)) (bn 15 (bl 12 (y_getf 2 2 15)) (bl 15 (y_iload 1 16)))) (bn 19 (bl 16 (y_invV 7 30 3 19)) (bn 20 (bl 19 (y_aload 0 20)) (bl 20 (x_const 2147483648 21)))))) (bn 30 (bn 25 (bn 24 (bl 21 (y_putf 2 3 0 24)) (bl 24 (y_aload 0 25))) (bn 26 (bl 25 (x_const 2147483648 26)) (bn 29 (bl 26 (y_putf 2 4 0 29)) (bl 29 (y_aload 0 30))))) (bn 35 (bn 31 (bl 30 (x_const 2147483648 31)) (bn 34 (bl 31 (y_putf 2 6 0 34)) (bl 34 (y_aload 0 35)))) (bn 36 (bl 35 (x_const 2147483648 36)) (bn 39 (bl 36 (y_putf 2 9 0 39)) (bl 39 (x_const 2147483648 40))))))) (bn 186 (bn 49 (bn 42 (bn 41 (bl 40 (y_istore 2 41)) (bl 41 (y_iload 2 42))) (bn 45 (bl 42 (x_const 2147484048 45)) (bn 48 (bl 45 (y_icmp yc4 185 48)) (bl 48 (y_aload 0 49))))) (bn 56 (bn 52 (bl 49 (y_getf 2 4 52)) (bn 55 (bl 52 (y_if yc1 185 55)) (bl 55 (y_aload 0 56)))) (bn 59 (bl 56 (y_invV 2 5 1 59)) (bn 185 (bl 59 (y_if yc0 185 62)) (bl 185 (y_aload 0 186)))))) (bn 200 (bn 193 (bn 189 (bl 186 (y_getf 2 4 189)) (bn 192 (bl 189 (y_if yc1 208 192)) (bl 192 (y_aload 0 193)))) (bn 194 (bl 193 (y_aload 0 194)) (bn 197 (bl 194 (y_getf 2 6 197)) (bl 197 (y_putf 2 4 0 200))))) (bn 205 (bn 201 (bl 200 (y_aload 0 201)) (bn 202 (bl 201 (y_aload 0 202)) (bl 202 (y_getf 2 7 205)))) (bn 208 (bl 205 (y_putf 2 5 0 208)) (bn 209 (bl 208 (y_aload 0 209)) (bl 209 (y_getf 2 4 212)))))))
set_option maxRecDepth 100000 in
set_option maxHeartbeats 4000000 in
theorem T_6_ok (G : State → Nat → Nat → Prop) : xTree PX G prog_4_method_2_code "CapitalCase$Parser" false T_6 := (xT_n (xT_n (xT_n (xT_n (xT_n (xT_l (yS (y_aload_eq _ _) (s_aload_n d6_0))) (xT_l (yS (y_getf_eq _ _ _) (s_getf (T := TX2) (N := 10) d6_1 rfl inX2 (by decide) wd_281)))) (xT_n (xT_l (yS (y_invV_eq _ _ _ _) (s_invV (T := TX6) d6_4 cal_28 rfl wd_622 wd_148 wd_149))) (xT_n (xT_l (yS (y_aload_eq _ _) (s_aload_n d6_7))) (xT_l (yS (y_getf_eq _ _ _) (s_getf (T := TX2) (N := 10) d6_8 rfl inX2 (by decide) wd_283)))))) (xT_n (xT_n (xT_l (yS (y_aload_eq _ _) (s_aload_n d6_11))) (xT_n (xT_l (yS (y_getf_eq _ _ _) (s_getf (T := TX2) (N := 10) d6_12 rfl inX2 (by decide) wd_284))) (xT_l (yS (y_iload_eq _ _) (s_iload_n d6_15))))) (xT_n (xT_l (yS (y_invV_eq _ _ _ _) (s_invV (T := TX7) d6_16 cal_30 rfl wd_623 wd_624 wd_625))) (xT_n (xT_l (yS (y_aload_eq _ _) (s_aload_n d6_19))) (xT_l (s_iconst d6_20 (by decide +kernel))))))) (xT_n (xT_n (xT_n (xT_l (yS (y_putf_eq _ _ _ _) (s_putf (T := TX2) (N := 10) (ty := tyX2) d6_21 rfl inX2 tyX2_ok nmX2 (by decide) wd_285 (Or.inl ⟨rfl, rfl⟩) rfl))) (xT_l (yS (y_aload_eq _ _) (s_aload_n d6_24)))) (xT_n (xT_l (s_iconst d6_25 (by decide +kernel))) (xT_n (xT_l (yS (y_putf_eq _ _ _ _) (s_putf (T := TX2) (N := 10) (ty := tyX2) d6_26 rfl inX2 tyX2_ok nmX2 (by decide) wd_286 (Or.inl ⟨rfl, rfl⟩) rfl))) (xT_l (yS (y_aload_eq _ _) (s_aload_n d6_29)))))) (xT_n (xT_n (xT_l (s_iconst d6_30 (by decide +kernel))) (xT_n (xT_l (yS (y_putf_eq _ _ _ _) (s_putf (T := TX2) (N := 10) (ty := tyX2) d6_31 rfl inX2 tyX2_ok nmX2 (by decide) wd_289 (Or.inl ⟨rfl, rfl⟩) rfl))) (xT_l (yS (y_aload_eq _ _) (s_aload_n d6_34))))) (xT_n (xT_l (s_iconst d6_35 (by decide +kernel))) (xT_n (xT_l (yS (y_putf_eq _ _ _ _) (s_putf (T := TX2) (N := 10) (ty := tyX2) d6_36 rfl inX2 tyX2_ok nmX2 (by decide) wd_292 (Or.inl ⟨rfl, rfl⟩) rfl))) (xT_l (s_iconst d6_39 (by decide +kernel)))))))) (xT_n (xT_n (xT_n (xT_n (xT_l (yS (y_istore_eq _ _) (s_istore_n d6_40))) (xT_l (yS (y_iload_eq _ _) (s_iload_n d6_41)))) (xT_n (xT_l (s_sipush d6_42 (by decide +kernel))) (xT_n (xT_l (yS (y_icmp_eq yc4_eq _ _) (s_icmpgt d6_45 (by decide +kernel)))) (xT_l (yS (y_aload_eq _ _) (s_aload_n d6_48)))))) (xT_n (xT_n (xT_l (yS (y_getf_eq _ _ _) (s_getf (T := TX2) (N := 10) d6_49 rfl inX2 (by decide) wd_286))) (xT_n (xT_l (yS (y_if_eq yc1_eq _ _) (s_ifne d6_52 (by decide +kernel)))) (xT_l (yS (y_aload_eq _ _) (s_aload_n d6_55))))) (xT_n (xT_l (yS (y_invV_eq _ _ _ _) (s_invV (T := TX2) d6_56 cal_5 rfl wd_756 wd_758 wd_2))) (xT_n (xT_l (yS (y_if_eq yc0_eq _ _) (s_ifeq d6_59 (by decide +kernel)))) (xT_l (yS (y_aload_eq _ _) (s_aload_n d6_185))))))) (xT_n (xT_n (xT_n (xT_l (yS (y_getf_eq _ _ _) (s_getf (T := TX2) (N := 10) d6_186 rfl inX2 (by decide) wd_286))) (xT_n (xT_l (yS (y_if_eq yc1_eq _ _) (s_ifne d6_189 (by decide +kernel)))) (xT_l (yS (y_aload_eq _ _) (s_aload_n d6_192))))) (xT_n (xT_l (yS (y_aload_eq _ _) (s_aload_n d6_193))) (xT_n (xT_l (yS (y_getf_eq _ _ _) (s_getf (T := TX2) (N := 10) d6_194 rfl inX2 (by decide) wd_289))) (xT_l (yS (y_putf_eq _ _ _ _) (s_putf (T := TX2) (N := 10) (ty := tyX2) d6_197 rfl inX2 tyX2_ok nmX2 (by decide) wd_286 (Or.inl ⟨rfl, rfl⟩) rfl)))))) (xT_n (xT_n (xT_l (yS (y_aload_eq _ _) (s_aload_n d6_200))) (xT_n (xT_l (yS (y_aload_eq _ _) (s_aload_n d6_201))) (xT_l (yS (y_getf_eq _ _ _) (s_getf (T := TX2) (N := 10) d6_202 rfl inX2 (by decide) wd_290))))) (xT_n (xT_l (yS (y_putf_eq _ _ _ _) (s_putf (T := TX2) (N := 10) (ty := tyX2) d6_205 rfl inX2 tyX2_ok nmX2 (by decide) wd_287 (Or.inl ⟨rfl, rfl⟩) rfl))) (xT_n (xT_l (yS (y_aload_eq _ _) (s_aload_n d6_208))) (xT_l (yS (y_getf_eq _ _ _) (s_getf (T := TX2) (N := 10) d6_209 rfl inX2 (by decide) wd_286)))))))))
set_option maxRecDepth 100000 in
set_option maxHeartbeats 4000000 in
theorem M_6 : xMeth PX 6 (T_6, 3, [(212, 1)]) := ⟨⟨"CapitalCase$Parser", "parse", "(I)I"⟩, prog_4_method_2_code, (some .int), rfl, by decide, fun G => T_6_ok G, xrt_ok (xR_c (Or.inl ⟨rfl, d6_212, rfl⟩) (xR_n))⟩
theorem d7_0 : decode prog_5_method_1_code 0 = .ok (.aload_n 0, 1) := by decide +kernel
theorem d7_1 : decode prog_5_method_1_code 1 = .ok (.invokespecial 3, 3) := by decide +kernel
theorem d7_4 : decode prog_5_method_1_code 4 = .ok (.aload_n 0, 1) := by decide +kernel
theorem d7_5 : decode prog_5_method_1_code 5 = .ok (.bipush 40, 2) := by decide +kernel
theorem d7_7 : decode prog_5_method_1_code 7 = .ok (.newarray .int, 2) := by decide +kernel
theorem d7_9 : decode prog_5_method_1_code 9 = .ok (.putfield 9, 3) := by decide +kernel
theorem d7_12 : decode prog_5_method_1_code 12 = .ok (.aload_n 0, 1) := by decide +kernel
theorem d7_13 : decode prog_5_method_1_code 13 = .ok (.bipush 56, 2) := by decide +kernel
theorem d7_15 : decode prog_5_method_1_code 15 = .ok (.newarray .int, 2) := by decide +kernel
theorem d7_17 : decode prog_5_method_1_code 17 = .ok (.putfield 15, 3) := by decide +kernel
theorem d7_20 : decode prog_5_method_1_code 20 = .ok (.aload_n 0, 1) := by decide +kernel
theorem d7_21 : decode prog_5_method_1_code 21 = .ok (.bipush 7, 2) := by decide +kernel
theorem d7_23 : decode prog_5_method_1_code 23 = .ok (.newarray .int, 2) := by decide +kernel
theorem d7_25 : decode prog_5_method_1_code 25 = .ok (.putfield 18, 3) := by decide +kernel
theorem d7_28 : decode prog_5_method_1_code 28 = .ok (.aload_n 0, 1) := by decide +kernel
theorem d7_29 : decode prog_5_method_1_code 29 = .ok (.sipush 280, 3) := by decide +kernel
theorem d7_32 : decode prog_5_method_1_code 32 = .ok (.newarray .int, 2) := by decide +kernel
theorem d7_34 : decode prog_5_method_1_code 34 = .ok (.putfield 21, 3) := by decide +kernel
theorem d7_37 : decode prog_5_method_1_code 37 = .ok (.aload_n 0, 1) := by decide +kernel
theorem d7_38 : decode prog_5_method_1_code 38 = .ok (.sipush 280, 3) := by decide +kernel
theorem d7_41 : decode prog_5_method_1_code 41 = .ok (.newarray .int, 2) := by decide +kernel
theorem d7_43 : decode prog_5_method_1_code 43 = .ok (.putfield 24, 3) := by decide +kernel
theorem d7_46 : decode prog_5_method_1_code 46 = .ok (.aload_n 0, 1) := by decide +kernel
theorem d7_47 : decode prog_5_method_1_code 47 = .ok (.bipush 56, 2) := by decide +kernel
theorem d7_49 : decode prog_5_method_1_code 49 = .ok (.newarray .int, 2) := by decide +kernel
theorem d7_51 : decode prog_5_method_1_code 51 = .ok (.putfield 27, 3) := by decide +kernel
theorem d7_54 : decode prog_5_method_1_code 54 = .ok (.aload_n 0, 1) := by decide +kernel
theorem d7_55 : decode prog_5_method_1_code 55 = .ok (.aload_n 1, 1) := by decide +kernel
theorem d7_56 : decode prog_5_method_1_code 56 = .ok (.putfield 30, 3) := by decide +kernel
theorem d7_59 : decode prog_5_method_1_code 59 = .ok (.aload_n 0, 1) := by decide +kernel
theorem d7_60 : decode prog_5_method_1_code 60 = .ok (.aload_n 2, 1) := by decide +kernel
theorem d7_61 : decode prog_5_method_1_code 61 = .ok (.putfield 34, 3) := by decide +kernel
theorem d7_64 : decode prog_5_method_1_code 64 = .ok (.return_, 1) := by decide +kernel
noncomputable def T_7 : Nat → Option xF := bn 32 (bn 15 (bn 7 (bn 4 (bn 1 (bl 0 (y_aload 0 1)) (bl 1 (x_obj 4))) (bn 5 (bl 4 (y_aload 0 5)) (bl 5 (x_const 2147483688 7)))) (bn 12 (bn 9 (bl 7 (x_newa 0 9)) (bl 9 (y_putf 3 2 2 12))) (bn 13 (bl 12 (y_aload 0 13)) (bl 13 (x_const 2147483704 15))))) (bn 23 (bn 20 (bn 17 (bl 15 (x_newa 0 17)) (bl 17 (y_putf 3 3 2 20))) (bn 21 (bl 20 (y_aload 0 21)) (bl 21 (x_const 2147483655 23)))) (bn 28 (bn 25 (bl 23 (x_newa 0 25)) (bl 25 (y_putf 3 4 2 28))) (bn 29 (bl 28 (y_aload 0 29)) (bl 29 (x_const 2147483928 32)))))) (bn 49 (bn 41 (bn 37 (bn 34 (bl 32 (x_newa 0 34)) (bl 34 (y_putf 3 9 2 37))) (bn 38 (bl 37 (y_aload 0 38)) (bl 38 (x_const 2147483928 41)))) (bn 46 (bn 43 (bl 41 (x_newa 0 43)) (bl 43 (y_putf 3 10 2 46))) (bn 47 (bl 46 (y_aload 0 47)) (bl 47 (x_const 2147483704 49))))) (bn 56 (bn 54 (bn 51 (bl 49 (x_newa 0 51)) (bl 51 (y_putf 3 11 2 54))) (bn 55 (bl 54 (y_aload 0 55)) (bl 55 (y_aload 1 56)))) (bn 60 (bn 59 (bl 56 (y_putf 3 0 2 59)) (bl 59 (y_aload 0 60))) (bn 61 (bl 60 (y_aload 2 61)) (bl 61 (y_putf 3 1 2 64))))))
set_option maxRecDepth 100000 in
set_option maxHeartbeats 4000000 in
theorem T_7_ok (G : State → Nat → Nat → Prop) : xTree PX G prog_5_method_1_code "CapitalCase$Planner" true T_7 := (xT_n (xT_n (xT_n (xT_n (xT_n (xT_l (yS (y_aload_eq _ _) (s_aload_n d7_0))) (xT_l (s_obj d7_1 wd_450 wd_139 wd_obj))) (xT_n (xT_l (yS (y_aload_eq _ _) (s_aload_n d7_4))) (xT_l (s_bipush d7_5 (by decide +kernel))))) (xT_n (xT_n (xT_l (s_newa (ty := .int) d7_7 rfl rfl wd_253 (by decide) (fun _ _ => rfl) (Or.inl ⟨by decide, rfl⟩))) (xT_l (yS (y_putf_eq _ _ _ _) (s_putF (T := TX3) (N := 12) (ty := tyX3) d7_9 rfl inX3 tyX3_ok nmX3 (by decide) wd_453 (Or.inr (Or.inr ⟨rfl, Or.inr ⟨_, rfl⟩⟩)) rfl rfl rfl)))) (xT_n (xT_l (yS (y_aload_eq _ _) (s_aload_n d7_12))) (xT_l (s_bipush d7_13 (by decide +kernel)))))) (xT_n (xT_n (xT_n (xT_l (s_newa (ty := .int) d7_15 rfl rfl wd_253 (by decide) (fun _ _ => rfl) (Or.inl ⟨by decide, rfl⟩))) (xT_l (yS (y_putf_eq _ _ _ _) (s_putF (T := TX3) (N := 12) (ty := tyX3) d7_17 rfl inX3 tyX3_ok nmX3 (by decide) wd_454 (Or.inr (Or.inr ⟨rfl, Or.inr ⟨_, rfl⟩⟩)) rfl rfl rfl)))) (xT_n (xT_l (yS (y_aload_eq _ _) (s_aload_n d7_20))) (xT_l (s_bipush d7_21 (by decide +kernel))))) (xT_n (xT_n (xT_l (s_newa (ty := .int) d7_23 rfl rfl wd_253 (by decide) (fun _ _ => rfl) (Or.inl ⟨by decide, rfl⟩))) (xT_l (yS (y_putf_eq _ _ _ _) (s_putF (T := TX3) (N := 12) (ty := tyX3) d7_25 rfl inX3 tyX3_ok nmX3 (by decide) wd_457 (Or.inr (Or.inr ⟨rfl, Or.inr ⟨_, rfl⟩⟩)) rfl rfl rfl)))) (xT_n (xT_l (yS (y_aload_eq _ _) (s_aload_n d7_28))) (xT_l (s_sipush d7_29 (by decide +kernel))))))) (xT_n (xT_n (xT_n (xT_n (xT_l (s_newa (ty := .int) d7_32 rfl rfl wd_253 (by decide) (fun _ _ => rfl) (Or.inl ⟨by decide, rfl⟩))) (xT_l (yS (y_putf_eq _ _ _ _) (s_putF (T := TX3) (N := 12) (ty := tyX3) d7_34 rfl inX3 tyX3_ok nmX3 (by decide) wd_467 (Or.inr (Or.inr ⟨rfl, Or.inr ⟨_, rfl⟩⟩)) rfl rfl rfl)))) (xT_n (xT_l (yS (y_aload_eq _ _) (s_aload_n d7_37))) (xT_l (s_sipush d7_38 (by decide +kernel))))) (xT_n (xT_n (xT_l (s_newa (ty := .int) d7_41 rfl rfl wd_253 (by decide) (fun _ _ => rfl) (Or.inl ⟨by decide, rfl⟩))) (xT_l (yS (y_putf_eq _ _ _ _) (s_putF (T := TX3) (N := 12) (ty := tyX3) d7_43 rfl inX3 tyX3_ok nmX3 (by decide) wd_468 (Or.inr (Or.inr ⟨rfl, Or.inr ⟨_, rfl⟩⟩)) rfl rfl rfl)))) (xT_n (xT_l (yS (y_aload_eq _ _) (s_aload_n d7_46))) (xT_l (s_bipush d7_47 (by decide +kernel)))))) (xT_n (xT_n (xT_n (xT_l (s_newa (ty := .int) d7_49 rfl rfl wd_253 (by decide) (fun _ _ => rfl) (Or.inl ⟨by decide, rfl⟩))) (xT_l (yS (y_putf_eq _ _ _ _) (s_putF (T := TX3) (N := 12) (ty := tyX3) d7_51 rfl inX3 tyX3_ok nmX3 (by decide) wd_469 (Or.inr (Or.inr ⟨rfl, Or.inr ⟨_, rfl⟩⟩)) rfl rfl rfl)))) (xT_n (xT_l (yS (y_aload_eq _ _) (s_aload_n d7_54))) (xT_l (yS (y_aload_eq _ _) (s_aload_n d7_55))))) (xT_n (xT_n (xT_l (yS (y_putf_eq _ _ _ _) (s_putF (T := TX3) (N := 12) (ty := tyX3) d7_56 rfl inX3 tyX3_ok nmX3 (by decide) wd_451 (Or.inr (Or.inr ⟨rfl, Or.inl ⟨_, rfl⟩⟩)) rfl rfl rfl))) (xT_l (yS (y_aload_eq _ _) (s_aload_n d7_59)))) (xT_n (xT_l (yS (y_aload_eq _ _) (s_aload_n d7_60))) (xT_l (yS (y_putf_eq _ _ _ _) (s_putF (T := TX3) (N := 12) (ty := tyX3) d7_61 rfl inX3 tyX3_ok nmX3 (by decide) wd_452 (Or.inr (Or.inr ⟨rfl, Or.inl ⟨_, rfl⟩⟩)) rfl rfl rfl))))))))
set_option maxRecDepth 100000 in
set_option maxHeartbeats 4000000 in
theorem M_7 : xMeth PX 7 (T_7, 3, [(64, 3)]) := ⟨⟨"CapitalCase$Planner", "<init>", "(LCapitalCase$Script;LCapitalCase$Judge;)V"⟩, prog_5_method_1_code, none, rfl, by decide, fun G => T_7_ok G, xrt_ok (xR_c (Or.inr (Or.inr (Or.inl ⟨rfl, d7_64, rfl⟩))) (xR_n))⟩
theorem d8_0 : decode prog_5_method_10_code 0 = .ok (.iload_n 2, 1) := by decide +kernel
theorem d8_1 : decode prog_5_method_10_code 1 = .ok (.aload_n 0, 1) := by decide +kernel
theorem d8_2 : decode prog_5_method_10_code 2 = .ok (.getfield 42, 3) := by decide +kernel
theorem d8_5 : decode prog_5_method_10_code 5 = .ok (.if_icmp .gt 19, 3) := by decide +kernel
theorem d8_8 : decode prog_5_method_10_code 8 = .ok (.iload_n 2, 1) := by decide +kernel
theorem d8_9 : decode prog_5_method_10_code 9 = .ok (.aload_n 0, 1) := by decide +kernel
theorem d8_10 : decode prog_5_method_10_code 10 = .ok (.getfield 42, 3) := by decide +kernel
theorem d8_13 : decode prog_5_method_10_code 13 = .ok (.if_icmp .ne 21, 3) := by decide +kernel
theorem d8_16 : decode prog_5_method_10_code 16 = .ok (.iload_n 1, 1) := by decide +kernel
theorem d8_17 : decode prog_5_method_10_code 17 = .ok (.aload_n 0, 1) := by decide +kernel
theorem d8_18 : decode prog_5_method_10_code 18 = .ok (.getfield 45, 3) := by decide +kernel
theorem d8_21 : decode prog_5_method_10_code 21 = .ok (.if_icmp .ge 13, 3) := by decide +kernel
theorem d8_34 : decode prog_5_method_10_code 34 = .ok (.return_, 1) := by decide +kernel
noncomputable def T_8 : Nat → Option xF := bn 10 (bn 5 (bn 1 (bl 0 (y_iload 2 1)) (bn 2 (bl 1 (y_aload 0 2)) (bl 2 (y_getf 3 6 5)))) (bn 8 (bl 5 (y_icmp yc4 24 8)) (bn 9 (bl 8 (y_iload 2 9)) (bl 9 (y_aload 0 10))))) (bn 17 (bn 13 (bl 10 (y_getf 3 6 13)) (bn 16 (bl 13 (y_icmp yc1 34 16)) (bl 16 (y_iload 1 17)))) (bn 18 (bl 17 (y_aload 0 18)) (bn 21 (bl 18 (y_getf 3 7 21)) (bl 21 (y_icmp yc3 34 24)))))
set_option maxRecDepth 100000 in
set_option maxHeartbeats 4000000 in
theorem T_8_ok (G : State → Nat → Nat → Prop) : xTree PX G prog_5_method_10_code "CapitalCase$Planner" false T_8 := (xT_n (xT_n (xT_n (xT_l (yS (y_iload_eq _ _) (s_iload_n d8_0))) (xT_n (xT_l (yS (y_aload_eq _ _) (s_aload_n d8_1))) (xT_l (yS (y_getf_eq _ _ _) (s_getf (T := TX3) (N := 12) d8_2 rfl inX3 (by decide) wd_461))))) (xT_n (xT_l (yS (y_icmp_eq yc4_eq _ _) (s_icmpgt d8_5 (by decide +kernel)))) (xT_n (xT_l (yS (y_iload_eq _ _) (s_iload_n d8_8))) (xT_l (yS (y_aload_eq _ _) (s_aload_n d8_9)))))) (xT_n (xT_n (xT_l (yS (y_getf_eq _ _ _) (s_getf (T := TX3) (N := 12) d8_10 rfl inX3 (by decide) wd_461))) (xT_n (xT_l (yS (y_icmp_eq yc1_eq _ _) (s_icmpne d8_13 (by decide +kernel)))) (xT_l (yS (y_iload_eq _ _) (s_iload_n d8_16))))) (xT_n (xT_l (yS (y_aload_eq _ _) (s_aload_n d8_17))) (xT_n (xT_l (yS (y_getf_eq _ _ _) (s_getf (T := TX3) (N := 12) d8_18 rfl inX3 (by decide) wd_464))) (xT_l (yS (y_icmp_eq yc3_eq _ _) (s_icmpge d8_21 (by decide +kernel))))))))
set_option maxRecDepth 100000 in
set_option maxHeartbeats 4000000 in
theorem M_8 : xMeth PX 8 (T_8, 3, [(34, 3)]) := ⟨⟨"CapitalCase$Planner", "keepIfMore", "(II)V"⟩, prog_5_method_10_code, none, rfl, by decide, fun G => T_8_ok G, xrt_ok (xR_c (Or.inr (Or.inr (Or.inl ⟨rfl, d8_34, rfl⟩))) (xR_n))⟩
theorem d9_0 : decode prog_5_method_2_code 0 = .ok (.aload_n 0, 1) := by decide +kernel
theorem d9_1 : decode prog_5_method_2_code 1 = .ok (.iload_n 2, 1) := by decide +kernel
theorem d9_2 : decode prog_5_method_2_code 2 = .ok (.putfield 38, 3) := by decide +kernel
theorem d9_5 : decode prog_5_method_2_code 5 = .ok (.aload_n 0, 1) := by decide +kernel
theorem d9_6 : decode prog_5_method_2_code 6 = .ok (.iconst 0, 1) := by decide +kernel
theorem d9_7 : decode prog_5_method_2_code 7 = .ok (.putfield 42, 3) := by decide +kernel
theorem d9_10 : decode prog_5_method_2_code 10 = .ok (.aload_n 0, 1) := by decide +kernel
theorem d9_11 : decode prog_5_method_2_code 11 = .ok (.iconst 0, 1) := by decide +kernel
theorem d9_12 : decode prog_5_method_2_code 12 = .ok (.putfield 45, 3) := by decide +kernel
theorem d9_15 : decode prog_5_method_2_code 15 = .ok (.iconst 0, 1) := by decide +kernel
theorem d9_16 : decode prog_5_method_2_code 16 = .ok (.istore_n 3, 1) := by decide +kernel
theorem d9_17 : decode prog_5_method_2_code 17 = .ok (.iload_n 3, 1) := by decide +kernel
theorem d9_18 : decode prog_5_method_2_code 18 = .ok (.bipush 40, 2) := by decide +kernel
theorem d9_20 : decode prog_5_method_2_code 20 = .ok (.if_icmp .ge 20, 3) := by decide +kernel
theorem d9_23 : decode prog_5_method_2_code 23 = .ok (.aload_n 0, 1) := by decide +kernel
theorem d9_24 : decode prog_5_method_2_code 24 = .ok (.getfield 9, 3) := by decide +kernel
theorem d9_27 : decode prog_5_method_2_code 27 = .ok (.iload_n 3, 1) := by decide +kernel
theorem d9_28 : decode prog_5_method_2_code 28 = .ok (.aload_n 1, 1) := by decide +kernel
theorem d9_29 : decode prog_5_method_2_code 29 = .ok (.iload_n 3, 1) := by decide +kernel
theorem d9_30 : decode prog_5_method_2_code 30 = .ok (.invokevirtual 48, 3) := by decide +kernel
theorem d9_33 : decode prog_5_method_2_code 33 = .ok (.iastore, 1) := by decide +kernel
theorem d9_34 : decode prog_5_method_2_code 34 = .ok (.iinc 3 1, 3) := by decide +kernel
theorem d9_37 : decode prog_5_method_2_code 37 = .ok (.goto (-20), 3) := by decide +kernel
theorem d9_40 : decode prog_5_method_2_code 40 = .ok (.iconst 0, 1) := by decide +kernel
theorem d9_41 : decode prog_5_method_2_code 41 = .ok (.istore_n 3, 1) := by decide +kernel
theorem d9_42 : decode prog_5_method_2_code 42 = .ok (.iload_n 3, 1) := by decide +kernel
theorem d9_43 : decode prog_5_method_2_code 43 = .ok (.aload_n 0, 1) := by decide +kernel
theorem d9_44 : decode prog_5_method_2_code 44 = .ok (.getfield 30, 3) := by decide +kernel
theorem d9_47 : decode prog_5_method_2_code 47 = .ok (.getfield 53, 3) := by decide +kernel
theorem d9_50 : decode prog_5_method_2_code 50 = .ok (.if_icmp .ge 80, 3) := by decide +kernel
theorem d9_130 : decode prog_5_method_2_code 130 = .ok (.return_, 1) := by decide +kernel
noncomputable def T_9 : Nat → Option xF := bn 24 (bn 11 (bn 5 (bn 1 (bl 0 (y_aload 0 1)) (bn 2 (bl 1 (y_iload 2 2)) (bl 2 (y_putf 3 8 0 5)))) (bn 7 (bn 6 (bl 5 (y_aload 0 6)) (bl 6 (x_const 2147483648 7))) (bn 10 (bl 7 (y_putf 3 6 0 10)) (bl 10 (y_aload 0 11))))) (bn 17 (bn 15 (bn 12 (bl 11 (x_const 2147483648 12)) (bl 12 (y_putf 3 7 0 15))) (bn 16 (bl 15 (x_const 2147483648 16)) (bl 16 (y_istore 3 17)))) (bn 20 (bn 18 (bl 17 (y_iload 3 18)) (bl 18 (x_const 2147483688 20))) (bn 23 (bl 20 (y_icmp yc3 40 23)) (bl 23 (y_aload 0 24)))))) (bn 37 (bn 29 (bn 27 (bl 24 (y_getf 3 2 27)) (bn 28 (bl 27 (y_iload 3 28)) (bl 28 (y_aload 1 29)))) (bn 33 (bn 30 (bl 29 (y_iload 3 30)) (bl 30 (y_invV 8 34 2 33))) (bn 34 (bl 33 (y_iast 34)) (bl 34 (y_iinc 3 2147483649 37))))) (bn 43 (bn 41 (bn 40 (bl 37 (x_goto 17)) (bl 40 (x_const 2147483648 41))) (bn 42 (bl 41 (y_istore 3 42)) (bl 42 (y_iload 3 43)))) (bn 47 (bn 44 (bl 43 (y_aload 0 44)) (bl 44 (y_getf 3 0 47))) (bn 50 (bl 47 (y_getf 6 1 50)) (bl 50 (y_icmp yc3 130 53))))))
set_option maxRecDepth 100000 in
set_option maxHeartbeats 4000000 in
theorem T_9_ok (G : State → Nat → Nat → Prop) : xTree PX G prog_5_method_2_code "CapitalCase$Planner" false T_9 := (xT_n (xT_n (xT_n (xT_n (xT_l (yS (y_aload_eq _ _) (s_aload_n d9_0))) (xT_n (xT_l (yS (y_iload_eq _ _) (s_iload_n d9_1))) (xT_l (yS (y_putf_eq _ _ _ _) (s_putf (T := TX3) (N := 12) (ty := tyX3) d9_2 rfl inX3 tyX3_ok nmX3 (by decide) wd_466 (Or.inl ⟨rfl, rfl⟩) rfl))))) (xT_n (xT_n (xT_l (yS (y_aload_eq _ _) (s_aload_n d9_5))) (xT_l (s_iconst d9_6 (by decide +kernel)))) (xT_n (xT_l (yS (y_putf_eq _ _ _ _) (s_putf (T := TX3) (N := 12) (ty := tyX3) d9_7 rfl inX3 tyX3_ok nmX3 (by decide) wd_461 (Or.inl ⟨rfl, rfl⟩) rfl))) (xT_l (yS (y_aload_eq _ _) (s_aload_n d9_10)))))) (xT_n (xT_n (xT_n (xT_l (s_iconst d9_11 (by decide +kernel))) (xT_l (yS (y_putf_eq _ _ _ _) (s_putf (T := TX3) (N := 12) (ty := tyX3) d9_12 rfl inX3 tyX3_ok nmX3 (by decide) wd_464 (Or.inl ⟨rfl, rfl⟩) rfl)))) (xT_n (xT_l (s_iconst d9_15 (by decide +kernel))) (xT_l (yS (y_istore_eq _ _) (s_istore_n d9_16))))) (xT_n (xT_n (xT_l (yS (y_iload_eq _ _) (s_iload_n d9_17))) (xT_l (s_bipush d9_18 (by decide +kernel)))) (xT_n (xT_l (yS (y_icmp_eq yc3_eq _ _) (s_icmpge d9_20 (by decide +kernel)))) (xT_l (yS (y_aload_eq _ _) (s_aload_n d9_23))))))) (xT_n (xT_n (xT_n (xT_l (yS (y_getf_eq _ _ _) (s_getf (T := TX3) (N := 12) d9_24 rfl inX3 (by decide) wd_453))) (xT_n (xT_l (yS (y_iload_eq _ _) (s_iload_n d9_27))) (xT_l (yS (y_aload_eq _ _) (s_aload_n d9_28))))) (xT_n (xT_n (xT_l (yS (y_iload_eq _ _) (s_iload_n d9_29))) (xT_l (yS (y_invV_eq _ _ _ _) (s_invV (T := TX8) d9_30 cal_34 rfl wd_947 wd_859 wd_860)))) (xT_n (xT_l (yS (y_iast_eq _) (s_iast d9_33))) (xT_l (yS (y_iinc_eq _ _ _) (s_iinc d9_34 (by decide +kernel))))))) (xT_n (xT_n (xT_n (xT_l (s_goto d9_37 (by decide +kernel))) (xT_l (s_iconst d9_40 (by decide +kernel)))) (xT_n (xT_l (yS (y_istore_eq _ _) (s_istore_n d9_41))) (xT_l (yS (y_iload_eq _ _) (s_iload_n d9_42))))) (xT_n (xT_n (xT_l (yS (y_aload_eq _ _) (s_aload_n d9_43))) (xT_l (yS (y_getf_eq _ _ _) (s_getf (T := TX3) (N := 12) d9_44 rfl inX3 (by decide) wd_451)))) (xT_n (xT_l (yS (y_getf_eq _ _ _) (s_getf (T := TX6) (N := 15) d9_47 rfl inX6 (by decide) wd_170))) (xT_l (yS (y_icmp_eq yc3_eq _ _) (s_icmpge d9_50 (by decide +kernel)))))))))
set_option maxRecDepth 100000 in
set_option maxHeartbeats 4000000 in
theorem M_9 : xMeth PX 9 (T_9, 5, [(130, 3)]) := ⟨⟨"CapitalCase$Planner", "prepare", "(LCapitalCase$Town;I)V"⟩, prog_5_method_2_code, none, rfl, by decide, fun G => T_9_ok G, xrt_ok (xR_c (Or.inr (Or.inr (Or.inl ⟨rfl, d9_130, rfl⟩))) (xR_n))⟩
theorem d10_0 : decode prog_5_method_9_code 0 = .ok (.iconst 0, 1) := by decide +kernel
theorem d10_1 : decode prog_5_method_9_code 1 = .ok (.istore_n 1, 1) := by decide +kernel
theorem d10_2 : decode prog_5_method_9_code 2 = .ok (.iconst 0, 1) := by decide +kernel
theorem d10_3 : decode prog_5_method_9_code 3 = .ok (.istore_n 2, 1) := by decide +kernel
theorem d10_4 : decode prog_5_method_9_code 4 = .ok (.iconst 0, 1) := by decide +kernel
theorem d10_5 : decode prog_5_method_9_code 5 = .ok (.istore_n 3, 1) := by decide +kernel
theorem d10_6 : decode prog_5_method_9_code 6 = .ok (.iconst 0, 1) := by decide +kernel
theorem d10_7 : decode prog_5_method_9_code 7 = .ok (.istore 4, 2) := by decide +kernel
theorem d10_9 : decode prog_5_method_9_code 9 = .ok (.iload 4, 2) := by decide +kernel
theorem d10_11 : decode prog_5_method_9_code 11 = .ok (.sipush 128, 3) := by decide +kernel
theorem d10_14 : decode prog_5_method_9_code 14 = .ok (.if_icmp .ge 118, 3) := by decide +kernel
theorem d10_17 : decode prog_5_method_9_code 17 = .ok (.iload_n 3, 1) := by decide +kernel
theorem d10_18 : decode prog_5_method_9_code 18 = .ok (.aload_n 0, 1) := by decide +kernel
theorem d10_19 : decode prog_5_method_9_code 19 = .ok (.getfield 30, 3) := by decide +kernel
theorem d10_22 : decode prog_5_method_9_code 22 = .ok (.getfield 53, 3) := by decide +kernel
theorem d10_25 : decode prog_5_method_9_code 25 = .ok (.if_icmp .ge 44, 3) := by decide +kernel
theorem d10_69 : decode prog_5_method_9_code 69 = .ok (.aload_n 0, 1) := by decide +kernel
theorem d10_70 : decode prog_5_method_9_code 70 = .ok (.iload_n 1, 1) := by decide +kernel
theorem d10_71 : decode prog_5_method_9_code 71 = .ok (.iload_n 2, 1) := by decide +kernel
theorem d10_72 : decode prog_5_method_9_code 72 = .ok (.invokevirtual 114, 3) := by decide +kernel
theorem d10_75 : decode prog_5_method_9_code 75 = .ok (.iload_n 1, 1) := by decide +kernel
theorem d10_76 : decode prog_5_method_9_code 76 = .ok (.ifCond .ne 4, 3) := by decide +kernel
theorem d10_79 : decode prog_5_method_9_code 79 = .ok (.return_, 1) := by decide +kernel
noncomputable def T_10 : Nat → Option xF := bn 17 (bn 5 (bn 2 (bn 1 (bl 0 (x_const 2147483648 1)) (bl 1 (y_istore 1 2))) (bn 3 (bl 2 (x_const 2147483648 3)) (bn 4 (bl 3 (y_istore 2 4)) (bl 4 (x_const 2147483648 5))))) (bn 9 (bn 6 (bl 5 (y_istore 3 6)) (bn 7 (bl 6 (x_const 2147483648 7)) (bl 7 (y_istore 4 9)))) (bn 11 (bl 9 (y_iload 4 11)) (bn 14 (bl 11 (x_const 2147483776 14)) (bl 14 (y_icmp yc3 132 17)))))) (bn 69 (bn 19 (bn 18 (bl 17 (y_iload 3 18)) (bl 18 (y_aload 0 19))) (bn 22 (bl 19 (y_getf 3 0 22)) (bn 25 (bl 22 (y_getf 6 1 25)) (bl 25 (y_icmp yc3 69 28))))) (bn 72 (bn 70 (bl 69 (y_aload 0 70)) (bn 71 (bl 70 (y_iload 1 71)) (bl 71 (y_iload 2 72)))) (bn 75 (bl 72 (y_invV 3 8 3 75)) (bn 76 (bl 75 (y_iload 1 76)) (bl 76 (y_if yc1 80 79))))))
set_option maxRecDepth 100000 in
set_option maxHeartbeats 4000000 in
theorem T_10_ok (G : State → Nat → Nat → Prop) : xTree PX G prog_5_method_9_code "CapitalCase$Planner" false T_10 := (xT_n (xT_n (xT_n (xT_n (xT_l (s_iconst d10_0 (by decide +kernel))) (xT_l (yS (y_istore_eq _ _) (s_istore_n d10_1)))) (xT_n (xT_l (s_iconst d10_2 (by decide +kernel))) (xT_n (xT_l (yS (y_istore_eq _ _) (s_istore_n d10_3))) (xT_l (s_iconst d10_4 (by decide +kernel)))))) (xT_n (xT_n (xT_l (yS (y_istore_eq _ _) (s_istore_n d10_5))) (xT_n (xT_l (s_iconst d10_6 (by decide +kernel))) (xT_l (yS (y_istore_eq _ _) (s_istore d10_7))))) (xT_n (xT_l (yS (y_iload_eq _ _) (s_iload d10_9))) (xT_n (xT_l (s_sipush d10_11 (by decide +kernel))) (xT_l (yS (y_icmp_eq yc3_eq _ _) (s_icmpge d10_14 (by decide +kernel)))))))) (xT_n (xT_n (xT_n (xT_l (yS (y_iload_eq _ _) (s_iload_n d10_17))) (xT_l (yS (y_aload_eq _ _) (s_aload_n d10_18)))) (xT_n (xT_l (yS (y_getf_eq _ _ _) (s_getf (T := TX3) (N := 12) d10_19 rfl inX3 (by decide) wd_451))) (xT_n (xT_l (yS (y_getf_eq _ _ _) (s_getf (T := TX6) (N := 15) d10_22 rfl inX6 (by decide) wd_170))) (xT_l (yS (y_icmp_eq yc3_eq _ _) (s_icmpge d10_25 (by decide +kernel))))))) (xT_n (xT_n (xT_l (yS (y_aload_eq _ _) (s_aload_n d10_69))) (xT_n (xT_l (yS (y_iload_eq _ _) (s_iload_n d10_70))) (xT_l (yS (y_iload_eq _ _) (s_iload_n d10_71))))) (xT_n (xT_l (yS (y_invV_eq _ _ _ _) (s_invV (T := TX3) d10_72 cal_8 rfl wd_1071 wd_1073 wd_33))) (xT_n (xT_l (yS (y_iload_eq _ _) (s_iload_n d10_75))) (xT_l (yS (y_if_eq yc1_eq _ _) (s_ifne d10_76 (by decide +kernel)))))))))
set_option maxRecDepth 100000 in
set_option maxHeartbeats 4000000 in
theorem M_10 : xMeth PX 10 (T_10, 6, [(79, 3)]) := ⟨⟨"CapitalCase$Planner", "search", "()V"⟩, prog_5_method_9_code, none, rfl, by decide, fun G => T_10_ok G, xrt_ok (xR_c (Or.inr (Or.inr (Or.inl ⟨rfl, d10_79, rfl⟩))) (xR_n))⟩
theorem d11_0 : decode prog_5_method_7_code 0 = .ok (.aload_n 0, 1) := by decide +kernel
theorem d11_1 : decode prog_5_method_7_code 1 = .ok (.aload_n 1, 1) := by decide +kernel
theorem d11_2 : decode prog_5_method_7_code 2 = .ok (.aload_n 1, 1) := by decide +kernel
theorem d11_3 : decode prog_5_method_7_code 3 = .ok (.aload_n 0, 1) := by decide +kernel
theorem d11_4 : decode prog_5_method_7_code 4 = .ok (.getfield 30, 3) := by decide +kernel
theorem d11_7 : decode prog_5_method_7_code 7 = .ok (.getfield 53, 3) := by decide +kernel
theorem d11_10 : decode prog_5_method_7_code 10 = .ok (.invokevirtual 100, 3) := by decide +kernel
theorem d11_13 : decode prog_5_method_7_code 13 = .ok (.invokevirtual 103, 3) := by decide +kernel
theorem d11_16 : decode prog_5_method_7_code 16 = .ok (.aload_n 0, 1) := by decide +kernel
theorem d11_17 : decode prog_5_method_7_code 17 = .ok (.invokevirtual 107, 3) := by decide +kernel
theorem d11_20 : decode prog_5_method_7_code 20 = .ok (.return_, 1) := by decide +kernel
noncomputable def T_11 : Nat → Option xF := bn 7 (bn 2 (bn 1 (bl 0 (y_aload 0 1)) (bl 1 (y_aload 1 2))) (bn 3 (bl 2 (y_aload 1 3)) (bn 4 (bl 3 (y_aload 0 4)) (bl 4 (y_getf 3 0 7))))) (bn 13 (bn 10 (bl 7 (y_getf 6 1 10)) (bl 10 (y_invV 8 35 2 13))) (bn 16 (bl 13 (y_invV 3 9 3 16)) (bn 17 (bl 16 (y_aload 0 17)) (bl 17 (y_invV 3 10 1 20)))))
set_option maxRecDepth 100000 in
set_option maxHeartbeats 4000000 in
theorem T_11_ok (G : State → Nat → Nat → Prop) : xTree PX G prog_5_method_7_code "CapitalCase$Planner" false T_11 := (xT_n (xT_n (xT_n (xT_l (yS (y_aload_eq _ _) (s_aload_n d11_0))) (xT_l (yS (y_aload_eq _ _) (s_aload_n d11_1)))) (xT_n (xT_l (yS (y_aload_eq _ _) (s_aload_n d11_2))) (xT_n (xT_l (yS (y_aload_eq _ _) (s_aload_n d11_3))) (xT_l (yS (y_getf_eq _ _ _) (s_getf (T := TX3) (N := 12) d11_4 rfl inX3 (by decide) wd_451)))))) (xT_n (xT_n (xT_l (yS (y_getf_eq _ _ _) (s_getf (T := TX6) (N := 15) d11_7 rfl inX6 (by decide) wd_170))) (xT_l (yS (y_invV_eq _ _ _ _) (s_invV (T := TX8) d11_10 cal_35 rfl wd_1064 wd_936 wd_937)))) (xT_n (xT_l (yS (y_invV_eq _ _ _ _) (s_invV (T := TX3) d11_13 cal_9 rfl wd_1065 wd_944 wd_945))) (xT_n (xT_l (yS (y_aload_eq _ _) (s_aload_n d11_16))) (xT_l (yS (y_invV_eq _ _ _ _) (s_invV (T := TX3) d11_17 cal_10 rfl wd_1066 wd_1068 wd_32)))))))
set_option maxRecDepth 100000 in
set_option maxHeartbeats 4000000 in
theorem M_11 : xMeth PX 11 (T_11, 2, [(20, 3)]) := ⟨⟨"CapitalCase$Planner", "seek", "(LCapitalCase$Town;)V"⟩, prog_5_method_7_code, none, rfl, by decide, fun G => T_11_ok G, xrt_ok (xR_c (Or.inr (Or.inr (Or.inl ⟨rfl, d11_20, rfl⟩))) (xR_n))⟩
theorem d12_0 : decode prog_6_method_1_code 0 = .ok (.aload_n 0, 1) := by decide +kernel
theorem d12_1 : decode prog_6_method_1_code 1 = .ok (.invokespecial 3, 3) := by decide +kernel
theorem d12_4 : decode prog_6_method_1_code 4 = .ok (.aload_n 0, 1) := by decide +kernel
theorem d12_5 : decode prog_6_method_1_code 5 = .ok (.aload_n 1, 1) := by decide +kernel
theorem d12_6 : decode prog_6_method_1_code 6 = .ok (.putfield 9, 3) := by decide +kernel
theorem d12_9 : decode prog_6_method_1_code 9 = .ok (.aload_n 0, 1) := by decide +kernel
theorem d12_10 : decode prog_6_method_1_code 10 = .ok (.aload_n 2, 1) := by decide +kernel
theorem d12_11 : decode prog_6_method_1_code 11 = .ok (.putfield 15, 3) := by decide +kernel
theorem d12_14 : decode prog_6_method_1_code 14 = .ok (.return_, 1) := by decide +kernel
noncomputable def T_12 : Nat → Option xF := bn 6 (bn 4 (bn 1 (bl 0 (y_aload 0 1)) (bl 1 (x_obj 4))) (bn 5 (bl 4 (y_aload 0 5)) (bl 5 (y_aload 1 6)))) (bn 10 (bn 9 (bl 6 (y_putf 4 0 2 9)) (bl 9 (y_aload 0 10))) (bn 11 (bl 10 (y_aload 2 11)) (bl 11 (y_putf 4 1 2 14))))
set_option maxRecDepth 100000 in
set_option maxHeartbeats 4000000 in
theorem T_12_ok (G : State → Nat → Nat → Prop) : xTree PX G prog_6_method_1_code "CapitalCase$Press" true T_12 := (xT_n (xT_n (xT_n (xT_l (yS (y_aload_eq _ _) (s_aload_n d12_0))) (xT_l (s_obj d12_1 wd_437 wd_139 wd_obj))) (xT_n (xT_l (yS (y_aload_eq _ _) (s_aload_n d12_4))) (xT_l (yS (y_aload_eq _ _) (s_aload_n d12_5))))) (xT_n (xT_n (xT_l (yS (y_putf_eq _ _ _ _) (s_putF (T := TX4) (N := 2) (ty := tyX4) d12_6 rfl inX4 tyX4_ok nmX4 (by decide) wd_438 (Or.inr (Or.inr ⟨rfl, Or.inl ⟨_, rfl⟩⟩)) rfl rfl rfl))) (xT_l (yS (y_aload_eq _ _) (s_aload_n d12_9)))) (xT_n (xT_l (yS (y_aload_eq _ _) (s_aload_n d12_10))) (xT_l (yS (y_putf_eq _ _ _ _) (s_putF (T := TX4) (N := 2) (ty := tyX4) d12_11 rfl inX4 tyX4_ok nmX4 (by decide) wd_439 (Or.inr (Or.inr ⟨rfl, Or.inl ⟨_, rfl⟩⟩)) rfl rfl rfl))))))
set_option maxRecDepth 100000 in
set_option maxHeartbeats 4000000 in
theorem M_12 : xMeth PX 12 (T_12, 3, [(14, 3)]) := ⟨⟨"CapitalCase$Press", "<init>", "(LCapitalCase$Script;LCapitalCase$Judge;)V"⟩, prog_6_method_1_code, none, rfl, by decide, fun G => T_12_ok G, xrt_ok (xR_c (Or.inr (Or.inr (Or.inl ⟨rfl, d12_14, rfl⟩))) (xR_n))⟩
theorem d13_0 : decode prog_6_method_8_code 0 = .ok (.iload_n 1, 1) := by decide +kernel
theorem d13_1 : decode prog_6_method_8_code 1 = .ok (.bipush 121, 2) := by decide +kernel
theorem d13_3 : decode prog_6_method_8_code 3 = .ok (.invokestatic 101, 3) := by decide +kernel
theorem d13_6 : decode prog_6_method_8_code 6 = .ok (.iload_n 2, 1) := by decide +kernel
theorem d13_7 : decode prog_6_method_8_code 7 = .ok (.invokestatic 101, 3) := by decide +kernel
theorem d13_10 : decode prog_6_method_8_code 10 = .ok (.iconst 1, 1) := by decide +kernel
theorem d13_11 : decode prog_6_method_8_code 11 = .ok (.iushr, 1) := by decide +kernel
theorem d13_12 : decode prog_6_method_8_code 12 = .ok (.istore_n 3, 1) := by decide +kernel
theorem d13_13 : decode prog_6_method_8_code 13 = .ok (.iload_n 0, 1) := by decide +kernel
theorem d13_14 : decode prog_6_method_8_code 14 = .ok (.ifCond .le 9, 3) := by decide +kernel
theorem d13_17 : decode prog_6_method_8_code 17 = .ok (.iload_n 3, 1) := by decide +kernel
theorem d13_18 : decode prog_6_method_8_code 18 = .ok (.iload_n 0, 1) := by decide +kernel
theorem d13_19 : decode prog_6_method_8_code 19 = .ok (.irem, 1) := by decide +kernel
theorem d13_20 : decode prog_6_method_8_code 20 = .ok (.goto 4, 3) := by decide +kernel
theorem d13_24 : decode prog_6_method_8_code 24 = .ok (.ireturn, 1) := by decide +kernel
noncomputable def T_13 : Nat → Option xF := bn 12 (bn 6 (bn 1 (bl 0 (y_iload 1 1)) (bn 3 (bl 1 (x_const 2147483769 3)) (bl 3 (y_inv 14 2 6)))) (bn 10 (bn 7 (bl 6 (y_iload 2 7)) (bl 7 (y_inv 14 2 10))) (bn 11 (bl 10 (x_const 2147483649 11)) (bl 11 (y_bin (xfg (fun x y => (x.toUInt32 >>> (y.toUInt32 &&& Int32.toUInt32 31)).toInt32)) 12))))) (bn 17 (bn 13 (bl 12 (y_istore 3 13)) (bn 14 (bl 13 (y_iload 0 14)) (bl 14 (y_if yc5 23 17)))) (bn 19 (bn 18 (bl 17 (y_iload 3 18)) (bl 18 (y_iload 0 19))) (bn 20 (bl 19 (x_rem 20)) (bl 20 (x_goto 24)))))
set_option maxRecDepth 100000 in
set_option maxHeartbeats 4000000 in
theorem T_13_ok (G : State → Nat → Nat → Prop) : xTree PX G prog_6_method_8_code "CapitalCase$Press" false T_13 := (xT_n (xT_n (xT_n (xT_l (yS (y_iload_eq _ _) (s_iload_n d13_0))) (xT_n (xT_l (s_bipush d13_1 (by decide +kernel))) (xT_l (yS (y_inv_eq _ _ _) (s_invS d13_3 cal_14 wd_1039 wd_1040))))) (xT_n (xT_n (xT_l (yS (y_iload_eq _ _) (s_iload_n d13_6))) (xT_l (yS (y_inv_eq _ _ _) (s_invS d13_7 cal_14 wd_1039 wd_1040)))) (xT_n (xT_l (s_iconst d13_10 (by decide +kernel))) (xT_l (yS (y_bin_eq _ _) (s_iushr d13_11)))))) (xT_n (xT_n (xT_l (yS (y_istore_eq _ _) (s_istore_n d13_12))) (xT_n (xT_l (yS (y_iload_eq _ _) (s_iload_n d13_13))) (xT_l (yS (y_if_eq yc5_eq _ _) (s_ifle d13_14 (by decide +kernel)))))) (xT_n (xT_n (xT_l (yS (y_iload_eq _ _) (s_iload_n d13_17))) (xT_l (yS (y_iload_eq _ _) (s_iload_n d13_18)))) (xT_n (xT_l (s_irem d13_19)) (xT_l (s_goto d13_20 (by decide +kernel)))))))
set_option maxRecDepth 100000 in
set_option maxHeartbeats 4000000 in
theorem M_13 : xMeth PX 13 (T_13, 4, [(24, 1)]) := ⟨⟨"CapitalCase$Press", "lot", "(III)I"⟩, prog_6_method_8_code, (some .int), rfl, by decide, fun G => T_13_ok G, xrt_ok (xR_c (Or.inl ⟨rfl, d13_24, rfl⟩) (xR_n))⟩
theorem d14_0 : decode prog_6_method_9_code 0 = .ok (.iload_n 0, 1) := by decide +kernel
theorem d14_1 : decode prog_6_method_9_code 1 = .ok (.iload_n 1, 1) := by decide +kernel
theorem d14_2 : decode prog_6_method_9_code 2 = .ok (.ixor, 1) := by decide +kernel
theorem d14_3 : decode prog_6_method_9_code 3 = .ok (.ldc 104, 2) := by decide +kernel
theorem d14_5 : decode prog_6_method_9_code 5 = .ok (.imul, 1) := by decide +kernel
theorem d14_6 : decode prog_6_method_9_code 6 = .ok (.sipush 12345, 3) := by decide +kernel
theorem d14_9 : decode prog_6_method_9_code 9 = .ok (.iadd, 1) := by decide +kernel
theorem d14_10 : decode prog_6_method_9_code 10 = .ok (.istore_n 2, 1) := by decide +kernel
theorem d14_11 : decode prog_6_method_9_code 11 = .ok (.iload_n 2, 1) := by decide +kernel
theorem d14_12 : decode prog_6_method_9_code 12 = .ok (.iload_n 2, 1) := by decide +kernel
theorem d14_13 : decode prog_6_method_9_code 13 = .ok (.bipush 15, 2) := by decide +kernel
theorem d14_15 : decode prog_6_method_9_code 15 = .ok (.iushr, 1) := by decide +kernel
theorem d14_16 : decode prog_6_method_9_code 16 = .ok (.ixor, 1) := by decide +kernel
theorem d14_17 : decode prog_6_method_9_code 17 = .ok (.ireturn, 1) := by decide +kernel
noncomputable def T_14 : Nat → Option xF := bn 9 (bn 3 (bn 1 (bl 0 (y_iload 0 1)) (bn 2 (bl 1 (y_iload 1 2)) (bl 2 (y_bin (xfg (fun x y => x ^^^ y)) 3)))) (bn 5 (bl 3 (x_const 3250998893 5)) (bn 6 (bl 5 (y_bin (xfg (fun x y => x * y)) 6)) (bl 6 (x_const 2147495993 9))))) (bn 12 (bn 10 (bl 9 (y_bin yadd 10)) (bn 11 (bl 10 (y_istore 2 11)) (bl 11 (y_iload 2 12)))) (bn 15 (bn 13 (bl 12 (y_iload 2 13)) (bl 13 (x_const 2147483663 15))) (bn 16 (bl 15 (y_bin (xfg (fun x y => (x.toUInt32 >>> (y.toUInt32 &&& Int32.toUInt32 31)).toInt32)) 16)) (bl 16 (y_bin (xfg (fun x y => x ^^^ y)) 17)))))
set_option maxRecDepth 100000 in
set_option maxHeartbeats 4000000 in
theorem T_14_ok (G : State → Nat → Nat → Prop) : xTree PX G prog_6_method_9_code "CapitalCase$Press" false T_14 := (xT_n (xT_n (xT_n (xT_l (yS (y_iload_eq _ _) (s_iload_n d14_0))) (xT_n (xT_l (yS (y_iload_eq _ _) (s_iload_n d14_1))) (xT_l (yS (y_bin_eq _ _) (s_ixor d14_2))))) (xT_n (xT_l (s_ldc d14_3 wd_1042 (by decide +kernel))) (xT_n (xT_l (yS (y_bin_eq _ _) (s_imul d14_5))) (xT_l (s_sipush d14_6 (by decide +kernel)))))) (xT_n (xT_n (xT_l (yS (y_bin_eq _ _) (s_iadd d14_9))) (xT_n (xT_l (yS (y_istore_eq _ _) (s_istore_n d14_10))) (xT_l (yS (y_iload_eq _ _) (s_iload_n d14_11))))) (xT_n (xT_n (xT_l (yS (y_iload_eq _ _) (s_iload_n d14_12))) (xT_l (s_bipush d14_13 (by decide +kernel)))) (xT_n (xT_l (yS (y_bin_eq _ _) (s_iushr d14_15))) (xT_l (yS (y_bin_eq _ _) (s_ixor d14_16)))))))
set_option maxRecDepth 100000 in
set_option maxHeartbeats 4000000 in
theorem M_14 : xMeth PX 14 (T_14, 3, [(17, 1)]) := ⟨⟨"CapitalCase$Press", "mix", "(II)I"⟩, prog_6_method_9_code, (some .int), rfl, by decide, fun G => T_14_ok G, xrt_ok (xR_c (Or.inl ⟨rfl, d14_17, rfl⟩) (xR_n))⟩
theorem d15_0 : decode prog_6_method_3_code 0 = .ok (.iconst 0, 1) := by decide +kernel
theorem d15_1 : decode prog_6_method_3_code 1 = .ok (.istore_n 2, 1) := by decide +kernel
theorem d15_2 : decode prog_6_method_3_code 2 = .ok (.iconst 0, 1) := by decide +kernel
theorem d15_3 : decode prog_6_method_3_code 3 = .ok (.istore_n 3, 1) := by decide +kernel
theorem d15_4 : decode prog_6_method_3_code 4 = .ok (.iload_n 3, 1) := by decide +kernel
theorem d15_5 : decode prog_6_method_3_code 5 = .ok (.aload_n 0, 1) := by decide +kernel
theorem d15_6 : decode prog_6_method_3_code 6 = .ok (.getfield 9, 3) := by decide +kernel
theorem d15_9 : decode prog_6_method_3_code 9 = .ok (.getfield 33, 3) := by decide +kernel
theorem d15_12 : decode prog_6_method_3_code 12 = .ok (.if_icmp .ge 42, 3) := by decide +kernel
theorem d15_54 : decode prog_6_method_3_code 54 = .ok (.iload_n 2, 1) := by decide +kernel
theorem d15_55 : decode prog_6_method_3_code 55 = .ok (.ireturn, 1) := by decide +kernel
noncomputable def T_15 : Nat → Option xF := bn 5 (bn 2 (bn 1 (bl 0 (x_const 2147483648 1)) (bl 1 (y_istore 2 2))) (bn 3 (bl 2 (x_const 2147483648 3)) (bn 4 (bl 3 (y_istore 3 4)) (bl 4 (y_iload 3 5))))) (bn 9 (bn 6 (bl 5 (y_aload 0 6)) (bl 6 (y_getf 4 0 9))) (bn 12 (bl 9 (y_getf 6 1 12)) (bn 54 (bl 12 (y_icmp yc3 54 15)) (bl 54 (y_iload 2 55)))))
set_option maxRecDepth 100000 in
set_option maxHeartbeats 4000000 in
theorem T_15_ok (G : State → Nat → Nat → Prop) : xTree PX G prog_6_method_3_code "CapitalCase$Press" false T_15 := (xT_n (xT_n (xT_n (xT_l (s_iconst d15_0 (by decide +kernel))) (xT_l (yS (y_istore_eq _ _) (s_istore_n d15_1)))) (xT_n (xT_l (s_iconst d15_2 (by decide +kernel))) (xT_n (xT_l (yS (y_istore_eq _ _) (s_istore_n d15_3))) (xT_l (yS (y_iload_eq _ _) (s_iload_n d15_4)))))) (xT_n (xT_n (xT_l (yS (y_aload_eq _ _) (s_aload_n d15_5))) (xT_l (yS (y_getf_eq _ _ _) (s_getf (T := TX4) (N := 2) d15_6 rfl inX4 (by decide) wd_438)))) (xT_n (xT_l (yS (y_getf_eq _ _ _) (s_getf (T := TX6) (N := 15) d15_9 rfl inX6 (by decide) wd_171))) (xT_n (xT_l (yS (y_icmp_eq yc3_eq _ _) (s_icmpge d15_12 (by decide +kernel)))) (xT_l (yS (y_iload_eq _ _) (s_iload_n d15_54)))))))
set_option maxRecDepth 100000 in
set_option maxHeartbeats 4000000 in
theorem M_15 : xMeth PX 15 (T_15, 4, [(55, 1)]) := ⟨⟨"CapitalCase$Press", "owed", "(LCapitalCase$Town;)I"⟩, prog_6_method_3_code, (some .int), rfl, by decide, fun G => T_15_ok G, xrt_ok (xR_c (Or.inl ⟨rfl, d15_55, rfl⟩) (xR_n))⟩
theorem d16_0 : decode prog_6_method_2_code 0 = .ok (.iconst 0, 1) := by decide +kernel
theorem d16_1 : decode prog_6_method_2_code 1 = .ok (.istore 4, 2) := by decide +kernel
theorem d16_3 : decode prog_6_method_2_code 3 = .ok (.iload 4, 2) := by decide +kernel
theorem d16_5 : decode prog_6_method_2_code 5 = .ok (.iload_n 2, 1) := by decide +kernel
theorem d16_6 : decode prog_6_method_2_code 6 = .ok (.if_icmp .ge 30, 3) := by decide +kernel
theorem d16_9 : decode prog_6_method_2_code 9 = .ok (.aload_n 0, 1) := by decide +kernel
theorem d16_10 : decode prog_6_method_2_code 10 = .ok (.aload_n 1, 1) := by decide +kernel
theorem d16_11 : decode prog_6_method_2_code 11 = .ok (.invokevirtual 19, 3) := by decide +kernel
theorem d16_14 : decode prog_6_method_2_code 14 = .ok (.aload_n 0, 1) := by decide +kernel
theorem d16_15 : decode prog_6_method_2_code 15 = .ok (.aload_n 1, 1) := by decide +kernel
theorem d16_16 : decode prog_6_method_2_code 16 = .ok (.iload_n 3, 1) := by decide +kernel
theorem d16_17 : decode prog_6_method_2_code 17 = .ok (.invokevirtual 23, 3) := by decide +kernel
theorem d16_20 : decode prog_6_method_2_code 20 = .ok (.aload_n 1, 1) := by decide +kernel
theorem d16_21 : decode prog_6_method_2_code 21 = .ok (.dup, 1) := by decide +kernel
theorem d16_22 : decode prog_6_method_2_code 22 = .ok (.getfield 27, 3) := by decide +kernel
theorem d16_25 : decode prog_6_method_2_code 25 = .ok (.iconst 1, 1) := by decide +kernel
theorem d16_26 : decode prog_6_method_2_code 26 = .ok (.iadd, 1) := by decide +kernel
theorem d16_27 : decode prog_6_method_2_code 27 = .ok (.putfield 27, 3) := by decide +kernel
theorem d16_30 : decode prog_6_method_2_code 30 = .ok (.iinc 4 1, 3) := by decide +kernel
theorem d16_33 : decode prog_6_method_2_code 33 = .ok (.goto (-30), 3) := by decide +kernel
theorem d16_36 : decode prog_6_method_2_code 36 = .ok (.return_, 1) := by decide +kernel
noncomputable def T_16 : Nat → Option xF := bn 16 (bn 9 (bn 3 (bn 1 (bl 0 (x_const 2147483648 1)) (bl 1 (y_istore 4 3))) (bn 5 (bl 3 (y_iload 4 5)) (bn 6 (bl 5 (y_iload 2 6)) (bl 6 (y_icmp yc3 36 9))))) (bn 11 (bn 10 (bl 9 (y_aload 0 10)) (bl 10 (y_aload 1 11))) (bn 14 (bl 11 (y_invV 4 19 2 14)) (bn 15 (bl 14 (y_aload 0 15)) (bl 15 (y_aload 1 16)))))) (bn 25 (bn 20 (bn 17 (bl 16 (y_iload 3 17)) (bl 17 (y_invV 4 17 3 20))) (bn 21 (bl 20 (y_aload 1 21)) (bn 22 (bl 21 (x_dup 22)) (bl 22 (y_getf 8 7 25))))) (bn 27 (bn 26 (bl 25 (x_const 2147483649 26)) (bl 26 (y_bin yadd 27))) (bn 30 (bl 27 (y_putf 8 7 0 30)) (bn 33 (bl 30 (y_iinc 4 2147483649 33)) (bl 33 (x_goto 3))))))
set_option maxRecDepth 100000 in
set_option maxHeartbeats 4000000 in
theorem T_16_ok (G : State → Nat → Nat → Prop) : xTree PX G prog_6_method_2_code "CapitalCase$Press" false T_16 := (xT_n (xT_n (xT_n (xT_n (xT_l (s_iconst d16_0 (by decide +kernel))) (xT_l (yS (y_istore_eq _ _) (s_istore d16_1)))) (xT_n (xT_l (yS (y_iload_eq _ _) (s_iload d16_3))) (xT_n (xT_l (yS (y_iload_eq _ _) (s_iload_n d16_5))) (xT_l (yS (y_icmp_eq yc3_eq _ _) (s_icmpge d16_6 (by decide +kernel))))))) (xT_n (xT_n (xT_l (yS (y_aload_eq _ _) (s_aload_n d16_9))) (xT_l (yS (y_aload_eq _ _) (s_aload_n d16_10)))) (xT_n (xT_l (yS (y_invV_eq _ _ _ _) (s_invV (T := TX4) d16_11 cal_19 rfl wd_1009 wd_1010 wd_1011))) (xT_n (xT_l (yS (y_aload_eq _ _) (s_aload_n d16_14))) (xT_l (yS (y_aload_eq _ _) (s_aload_n d16_15))))))) (xT_n (xT_n (xT_n (xT_l (yS (y_iload_eq _ _) (s_iload_n d16_16))) (xT_l (yS (y_invV_eq _ _ _ _) (s_invV (T := TX4) d16_17 cal_17 rfl wd_1028 wd_1030 wd_31)))) (xT_n (xT_l (yS (y_aload_eq _ _) (s_aload_n d16_20))) (xT_n (xT_l (s_dup d16_21)) (xT_l (yS (y_getf_eq _ _ _) (s_getf (T := TX8) (N := 10) d16_22 rfl inX8 (by decide) wd_344)))))) (xT_n (xT_n (xT_l (s_iconst d16_25 (by decide +kernel))) (xT_l (yS (y_bin_eq _ _) (s_iadd d16_26)))) (xT_n (xT_l (yS (y_putf_eq _ _ _ _) (s_putf (T := TX8) (N := 10) (ty := tyX8) d16_27 rfl inX8 tyX8_ok nmX8 (by decide) wd_344 (Or.inl ⟨rfl, rfl⟩) rfl))) (xT_n (xT_l (yS (y_iinc_eq _ _ _) (s_iinc d16_30 (by decide +kernel)))) (xT_l (s_goto d16_33 (by decide +kernel))))))))
set_option maxRecDepth 100000 in
set_option maxHeartbeats 4000000 in
theorem M_16 : xMeth PX 16 (T_16, 5, [(36, 3)]) := ⟨⟨"CapitalCase$Press", "passDays", "(LCapitalCase$Town;II)V"⟩, prog_6_method_2_code, none, rfl, by decide, fun G => T_16_ok G, xrt_ok (xR_c (Or.inr (Or.inr (Or.inl ⟨rfl, d16_36, rfl⟩))) (xR_n))⟩
theorem d17_0 : decode prog_6_method_7_code 0 = .ok (.aload_n 0, 1) := by decide +kernel
theorem d17_1 : decode prog_6_method_7_code 1 = .ok (.iload_n 2, 1) := by decide +kernel
theorem d17_2 : decode prog_6_method_7_code 2 = .ok (.aload_n 1, 1) := by decide +kernel
theorem d17_3 : decode prog_6_method_7_code 3 = .ok (.getfield 27, 3) := by decide +kernel
theorem d17_6 : decode prog_6_method_7_code 6 = .ok (.invokevirtual 94, 3) := by decide +kernel
theorem d17_9 : decode prog_6_method_7_code 9 = .ok (.ifCond .ne 4, 3) := by decide +kernel
theorem d17_12 : decode prog_6_method_7_code 12 = .ok (.return_, 1) := by decide +kernel
noncomputable def T_17 : Nat → Option xF := bn 3 (bn 1 (bl 0 (y_aload 0 1)) (bn 2 (bl 1 (y_iload 2 2)) (bl 2 (y_aload 1 3)))) (bn 6 (bl 3 (y_getf 8 7 6)) (bn 9 (bl 6 (y_invV 4 18 3 9)) (bl 9 (y_if yc1 13 12))))
set_option maxRecDepth 100000 in
set_option maxHeartbeats 4000000 in
theorem T_17_ok (G : State → Nat → Nat → Prop) : xTree PX G prog_6_method_7_code "CapitalCase$Press" false T_17 := (xT_n (xT_n (xT_l (yS (y_aload_eq _ _) (s_aload_n d17_0))) (xT_n (xT_l (yS (y_iload_eq _ _) (s_iload_n d17_1))) (xT_l (yS (y_aload_eq _ _) (s_aload_n d17_2))))) (xT_n (xT_l (yS (y_getf_eq _ _ _) (s_getf (T := TX8) (N := 10) d17_3 rfl inX8 (by decide) wd_344))) (xT_n (xT_l (yS (y_invV_eq _ _ _ _) (s_invV (T := TX4) d17_6 cal_18 rfl wd_1032 wd_1033 wd_1034))) (xT_l (yS (y_if_eq yc1_eq _ _) (s_ifne d17_9 (by decide +kernel)))))))
set_option maxRecDepth 100000 in
set_option maxHeartbeats 4000000 in
theorem M_17 : xMeth PX 17 (T_17, 6, [(12, 3)]) := ⟨⟨"CapitalCase$Press", "steal", "(LCapitalCase$Town;I)V"⟩, prog_6_method_7_code, none, rfl, by decide, fun G => T_17_ok G, xrt_ok (xR_c (Or.inr (Or.inr (Or.inl ⟨rfl, d17_12, rfl⟩))) (xR_n))⟩
theorem d18_0 : decode prog_6_method_6_code 0 = .ok (.bipush 100, 2) := by decide +kernel
theorem d18_2 : decode prog_6_method_6_code 2 = .ok (.iload_n 1, 1) := by decide +kernel
theorem d18_3 : decode prog_6_method_6_code 3 = .ok (.iconst 4, 1) := by decide +kernel
theorem d18_4 : decode prog_6_method_6_code 4 = .ok (.iload_n 2, 1) := by decide +kernel
theorem d18_5 : decode prog_6_method_6_code 5 = .ok (.imul, 1) := by decide +kernel
theorem d18_6 : decode prog_6_method_6_code 6 = .ok (.invokestatic 87, 3) := by decide +kernel
theorem d18_9 : decode prog_6_method_6_code 9 = .ok (.aload_n 0, 1) := by decide +kernel
theorem d18_10 : decode prog_6_method_6_code 10 = .ok (.getfield 9, 3) := by decide +kernel
theorem d18_13 : decode prog_6_method_6_code 13 = .ok (.getfield 91, 3) := by decide +kernel
theorem d18_16 : decode prog_6_method_6_code 16 = .ok (.if_icmp .ge 7, 3) := by decide +kernel
theorem d18_23 : decode prog_6_method_6_code 23 = .ok (.iconst 0, 1) := by decide +kernel
theorem d18_24 : decode prog_6_method_6_code 24 = .ok (.ireturn, 1) := by decide +kernel
noncomputable def T_18 : Nat → Option xF := bn 6 (bn 3 (bn 2 (bl 0 (x_const 2147483748 2)) (bl 2 (y_iload 1 3))) (bn 4 (bl 3 (x_const 2147483652 4)) (bn 5 (bl 4 (y_iload 2 5)) (bl 5 (y_bin (xfg (fun x y => x * y)) 6))))) (bn 13 (bn 9 (bl 6 (y_inv 13 3 9)) (bn 10 (bl 9 (y_aload 0 10)) (bl 10 (y_getf 4 0 13)))) (bn 16 (bl 13 (y_getf 6 2 16)) (bn 23 (bl 16 (y_icmp yc3 23 19)) (bl 23 (x_const 2147483648 24)))))
set_option maxRecDepth 100000 in
set_option maxHeartbeats 4000000 in
theorem T_18_ok (G : State → Nat → Nat → Prop) : xTree PX G prog_6_method_6_code "CapitalCase$Press" false T_18 := (xT_n (xT_n (xT_n (xT_l (s_bipush d18_0 (by decide +kernel))) (xT_l (yS (y_iload_eq _ _) (s_iload_n d18_2)))) (xT_n (xT_l (s_iconst d18_3 (by decide +kernel))) (xT_n (xT_l (yS (y_iload_eq _ _) (s_iload_n d18_4))) (xT_l (yS (y_bin_eq _ _) (s_imul d18_5)))))) (xT_n (xT_n (xT_l (yS (y_inv_eq _ _ _) (s_invS d18_6 cal_13 wd_1036 wd_1037))) (xT_n (xT_l (yS (y_aload_eq _ _) (s_aload_n d18_9))) (xT_l (yS (y_getf_eq _ _ _) (s_getf (T := TX4) (N := 2) d18_10 rfl inX4 (by decide) wd_438))))) (xT_n (xT_l (yS (y_getf_eq _ _ _) (s_getf (T := TX6) (N := 15) d18_13 rfl inX6 (by decide) wd_179))) (xT_n (xT_l (yS (y_icmp_eq yc3_eq _ _) (s_icmpge d18_16 (by decide +kernel)))) (xT_l (s_iconst d18_23 (by decide +kernel)))))))
set_option maxRecDepth 100000 in
set_option maxHeartbeats 4000000 in
theorem M_18 : xMeth PX 18 (T_18, 3, [(24, 2)]) := ⟨⟨"CapitalCase$Press", "thievesCome", "(II)Z"⟩, prog_6_method_6_code, (some .boolean), rfl, by decide, fun G => T_18_ok G, xrt_ok (xR_c (Or.inr (Or.inl ⟨rfl, d18_24, rfl⟩)) (xR_n))⟩
theorem d19_0 : decode prog_6_method_4_code 0 = .ok (.aload_n 1, 1) := by decide +kernel
theorem d19_1 : decode prog_6_method_4_code 1 = .ok (.dup, 1) := by decide +kernel
theorem d19_2 : decode prog_6_method_4_code 2 = .ok (.getfield 50, 3) := by decide +kernel
theorem d19_5 : decode prog_6_method_4_code 5 = .ok (.aload_n 0, 1) := by decide +kernel
theorem d19_6 : decode prog_6_method_4_code 6 = .ok (.aload_n 1, 1) := by decide +kernel
theorem d19_7 : decode prog_6_method_4_code 7 = .ok (.invokevirtual 53, 3) := by decide +kernel
theorem d19_10 : decode prog_6_method_4_code 10 = .ok (.iadd, 1) := by decide +kernel
theorem d19_11 : decode prog_6_method_4_code 11 = .ok (.putfield 50, 3) := by decide +kernel
theorem d19_14 : decode prog_6_method_4_code 14 = .ok (.aload_n 1, 1) := by decide +kernel
theorem d19_15 : decode prog_6_method_4_code 15 = .ok (.dup, 1) := by decide +kernel
theorem d19_16 : decode prog_6_method_4_code 16 = .ok (.getfield 41, 3) := by decide +kernel
theorem d19_19 : decode prog_6_method_4_code 19 = .ok (.aload_n 1, 1) := by decide +kernel
theorem d19_20 : decode prog_6_method_4_code 20 = .ok (.getfield 38, 3) := by decide +kernel
theorem d19_23 : decode prog_6_method_4_code 23 = .ok (.ior, 1) := by decide +kernel
theorem d19_24 : decode prog_6_method_4_code 24 = .ok (.putfield 41, 3) := by decide +kernel
theorem d19_27 : decode prog_6_method_4_code 27 = .ok (.iconst 0, 1) := by decide +kernel
theorem d19_28 : decode prog_6_method_4_code 28 = .ok (.istore_n 2, 1) := by decide +kernel
theorem d19_29 : decode prog_6_method_4_code 29 = .ok (.iload_n 2, 1) := by decide +kernel
theorem d19_30 : decode prog_6_method_4_code 30 = .ok (.aload_n 0, 1) := by decide +kernel
theorem d19_31 : decode prog_6_method_4_code 31 = .ok (.getfield 9, 3) := by decide +kernel
theorem d19_34 : decode prog_6_method_4_code 34 = .ok (.getfield 57, 3) := by decide +kernel
theorem d19_37 : decode prog_6_method_4_code 37 = .ok (.if_icmp .ge 31, 3) := by decide +kernel
theorem d19_68 : decode prog_6_method_4_code 68 = .ok (.return_, 1) := by decide +kernel
noncomputable def T_19 : Nat → Option xF := bn 19 (bn 7 (bn 2 (bn 1 (bl 0 (y_aload 1 1)) (bl 1 (x_dup 2))) (bn 5 (bl 2 (y_getf 8 8 5)) (bn 6 (bl 5 (y_aload 0 6)) (bl 6 (y_aload 1 7))))) (bn 14 (bn 10 (bl 7 (y_invV 4 15 2 10)) (bn 11 (bl 10 (y_bin yadd 11)) (bl 11 (y_putf 8 8 0 14)))) (bn 15 (bl 14 (y_aload 1 15)) (bn 16 (bl 15 (x_dup 16)) (bl 16 (y_getf 8 6 19)))))) (bn 28 (bn 23 (bn 20 (bl 19 (y_aload 1 20)) (bl 20 (y_getf 8 5 23))) (bn 24 (bl 23 (y_bin (xfg (fun x y => x ||| y)) 24)) (bn 27 (bl 24 (y_putf 8 6 0 27)) (bl 27 (x_const 2147483648 28))))) (bn 31 (bn 29 (bl 28 (y_istore 2 29)) (bn 30 (bl 29 (y_iload 2 30)) (bl 30 (y_aload 0 31)))) (bn 34 (bl 31 (y_getf 4 0 34)) (bn 37 (bl 34 (y_getf 6 0 37)) (bl 37 (y_icmp yc3 68 40))))))
set_option maxRecDepth 100000 in
set_option maxHeartbeats 4000000 in
theorem T_19_ok (G : State → Nat → Nat → Prop) : xTree PX G prog_6_method_4_code "CapitalCase$Press" false T_19 := (xT_n (xT_n (xT_n (xT_n (xT_l (yS (y_aload_eq _ _) (s_aload_n d19_0))) (xT_l (s_dup d19_1))) (xT_n (xT_l (yS (y_getf_eq _ _ _) (s_getf (T := TX8) (N := 10) d19_2 rfl inX8 (by decide) wd_351))) (xT_n (xT_l (yS (y_aload_eq _ _) (s_aload_n d19_5))) (xT_l (yS (y_aload_eq _ _) (s_aload_n d19_6)))))) (xT_n (xT_n (xT_l (yS (y_invV_eq _ _ _ _) (s_invV (T := TX4) d19_7 cal_15 rfl wd_1013 wd_1014 wd_1015))) (xT_n (xT_l (yS (y_bin_eq _ _) (s_iadd d19_10))) (xT_l (yS (y_putf_eq _ _ _ _) (s_putf (T := TX8) (N := 10) (ty := tyX8) d19_11 rfl inX8 tyX8_ok nmX8 (by decide) wd_351 (Or.inl ⟨rfl, rfl⟩) rfl))))) (xT_n (xT_l (yS (y_aload_eq _ _) (s_aload_n d19_14))) (xT_n (xT_l (s_dup d19_15)) (xT_l (yS (y_getf_eq _ _ _) (s_getf (T := TX8) (N := 10) d19_16 rfl inX8 (by decide) wd_342))))))) (xT_n (xT_n (xT_n (xT_l (yS (y_aload_eq _ _) (s_aload_n d19_19))) (xT_l (yS (y_getf_eq _ _ _) (s_getf (T := TX8) (N := 10) d19_20 rfl inX8 (by decide) wd_339)))) (xT_n (xT_l (yS (y_bin_eq _ _) (s_ior d19_23))) (xT_n (xT_l (yS (y_putf_eq _ _ _ _) (s_putf (T := TX8) (N := 10) (ty := tyX8) d19_24 rfl inX8 tyX8_ok nmX8 (by decide) wd_342 (Or.inl ⟨rfl, rfl⟩) rfl))) (xT_l (s_iconst d19_27 (by decide +kernel)))))) (xT_n (xT_n (xT_l (yS (y_istore_eq _ _) (s_istore_n d19_28))) (xT_n (xT_l (yS (y_iload_eq _ _) (s_iload_n d19_29))) (xT_l (yS (y_aload_eq _ _) (s_aload_n d19_30))))) (xT_n (xT_l (yS (y_getf_eq _ _ _) (s_getf (T := TX4) (N := 2) d19_31 rfl inX4 (by decide) wd_438))) (xT_n (xT_l (yS (y_getf_eq _ _ _) (s_getf (T := TX6) (N := 15) d19_34 rfl inX6 (by decide) wd_165))) (xT_l (yS (y_icmp_eq yc3_eq _ _) (s_icmpge d19_37 (by decide +kernel)))))))))
set_option maxRecDepth 100000 in
set_option maxHeartbeats 4000000 in
theorem M_19 : xMeth PX 19 (T_19, 4, [(68, 3)]) := ⟨⟨"CapitalCase$Press", "work", "(LCapitalCase$Town;)V"⟩, prog_6_method_4_code, none, rfl, by decide, fun G => T_19_ok G, xrt_ok (xR_c (Or.inr (Or.inr (Or.inl ⟨rfl, d19_68, rfl⟩))) (xR_n))⟩
theorem d20_0 : decode prog_7_method_1_code 0 = .ok (.aload_n 0, 1) := by decide +kernel
theorem d20_1 : decode prog_7_method_1_code 1 = .ok (.invokespecial 3, 3) := by decide +kernel
theorem d20_4 : decode prog_7_method_1_code 4 = .ok (.aload_n 0, 1) := by decide +kernel
theorem d20_5 : decode prog_7_method_1_code 5 = .ok (.bipush 20, 2) := by decide +kernel
theorem d20_7 : decode prog_7_method_1_code 7 = .ok (.newarray .int, 2) := by decide +kernel
theorem d20_9 : decode prog_7_method_1_code 9 = .ok (.putfield 11, 3) := by decide +kernel
theorem d20_12 : decode prog_7_method_1_code 12 = .ok (.aload_n 0, 1) := by decide +kernel
theorem d20_13 : decode prog_7_method_1_code 13 = .ok (.bipush 20, 2) := by decide +kernel
theorem d20_15 : decode prog_7_method_1_code 15 = .ok (.newarray .int, 2) := by decide +kernel
theorem d20_17 : decode prog_7_method_1_code 17 = .ok (.putfield 15, 3) := by decide +kernel
theorem d20_20 : decode prog_7_method_1_code 20 = .ok (.aload_n 0, 1) := by decide +kernel
theorem d20_21 : decode prog_7_method_1_code 21 = .ok (.bipush 20, 2) := by decide +kernel
theorem d20_23 : decode prog_7_method_1_code 23 = .ok (.newarray .boolean, 2) := by decide +kernel
theorem d20_25 : decode prog_7_method_1_code 25 = .ok (.putfield 18, 3) := by decide +kernel
theorem d20_28 : decode prog_7_method_1_code 28 = .ok (.return_, 1) := by decide +kernel
noncomputable def T_20 : Nat → Option xF := bn 13 (bn 5 (bn 1 (bl 0 (y_aload 0 1)) (bn 4 (bl 1 (x_obj 4)) (bl 4 (y_aload 0 5)))) (bn 9 (bn 7 (bl 5 (x_const 2147483668 7)) (bl 7 (x_newa 0 9))) (bn 12 (bl 9 (y_putf 5 0 2 12)) (bl 12 (y_aload 0 13))))) (bn 20 (bn 15 (bl 13 (x_const 2147483668 15)) (bn 17 (bl 15 (x_newa 0 17)) (bl 17 (y_putf 5 1 2 20)))) (bn 23 (bn 21 (bl 20 (y_aload 0 21)) (bl 21 (x_const 2147483668 23))) (bn 25 (bl 23 (x_newa 2 25)) (bl 25 (y_putf 5 2 2 28)))))
set_option maxRecDepth 100000 in
set_option maxHeartbeats 4000000 in
theorem T_20_ok (G : State → Nat → Nat → Prop) : xTree PX G prog_7_method_1_code "CapitalCase$Prints" true T_20 := (xT_n (xT_n (xT_n (xT_l (yS (y_aload_eq _ _) (s_aload_n d20_0))) (xT_n (xT_l (s_obj d20_1 wd_400 wd_139 wd_obj)) (xT_l (yS (y_aload_eq _ _) (s_aload_n d20_4))))) (xT_n (xT_n (xT_l (s_bipush d20_5 (by decide +kernel))) (xT_l (s_newa (ty := .int) d20_7 rfl rfl wd_253 (by decide) (fun _ _ => rfl) (Or.inl ⟨by decide, rfl⟩)))) (xT_n (xT_l (yS (y_putf_eq _ _ _ _) (s_putF (T := TX5) (N := 4) (ty := tyX5) d20_9 rfl inX5 tyX5_ok nmX5 (by decide) wd_401 (Or.inr (Or.inr ⟨rfl, Or.inr ⟨_, rfl⟩⟩)) rfl rfl rfl))) (xT_l (yS (y_aload_eq _ _) (s_aload_n d20_12)))))) (xT_n (xT_n (xT_l (s_bipush d20_13 (by decide +kernel))) (xT_n (xT_l (s_newa (ty := .int) d20_15 rfl rfl wd_253 (by decide) (fun _ _ => rfl) (Or.inl ⟨by decide, rfl⟩))) (xT_l (yS (y_putf_eq _ _ _ _) (s_putF (T := TX5) (N := 4) (ty := tyX5) d20_17 rfl inX5 tyX5_ok nmX5 (by decide) wd_402 (Or.inr (Or.inr ⟨rfl, Or.inr ⟨_, rfl⟩⟩)) rfl rfl rfl))))) (xT_n (xT_n (xT_l (yS (y_aload_eq _ _) (s_aload_n d20_20))) (xT_l (s_bipush d20_21 (by decide +kernel)))) (xT_n (xT_l (s_newa (ty := .boolean) d20_23 rfl rfl wd_415 (by decide) (fun _ _ => rfl) (Or.inl ⟨by decide, rfl⟩))) (xT_l (yS (y_putf_eq _ _ _ _) (s_putF (T := TX5) (N := 4) (ty := tyX5) d20_25 rfl inX5 tyX5_ok nmX5 (by decide) wd_403 (Or.inr (Or.inr ⟨rfl, Or.inr ⟨_, rfl⟩⟩)) rfl rfl rfl)))))))
set_option maxRecDepth 100000 in
set_option maxHeartbeats 4000000 in
theorem M_20 : xMeth PX 20 (T_20, 1, [(28, 3)]) := ⟨⟨"CapitalCase$Prints", "<init>", "()V"⟩, prog_7_method_1_code, none, rfl, by decide, fun G => T_20_ok G, xrt_ok (xR_c (Or.inr (Or.inr (Or.inl ⟨rfl, d20_28, rfl⟩))) (xR_n))⟩
theorem d21_0 : decode prog_7_method_3_code 0 = .ok (.iconst 0, 1) := by decide +kernel
theorem d21_1 : decode prog_7_method_3_code 1 = .ok (.istore 4, 2) := by decide +kernel
theorem d21_3 : decode prog_7_method_3_code 3 = .ok (.iconst 0, 1) := by decide +kernel
theorem d21_4 : decode prog_7_method_3_code 4 = .ok (.istore 5, 2) := by decide +kernel
theorem d21_6 : decode prog_7_method_3_code 6 = .ok (.iload 5, 2) := by decide +kernel
theorem d21_8 : decode prog_7_method_3_code 8 = .ok (.iload_n 2, 1) := by decide +kernel
theorem d21_9 : decode prog_7_method_3_code 9 = .ok (.if_icmp .ge 100, 3) := by decide +kernel
theorem d21_109 : decode prog_7_method_3_code 109 = .ok (.iload 4, 2) := by decide +kernel
theorem d21_111 : decode prog_7_method_3_code 111 = .ok (.ireturn, 1) := by decide +kernel
noncomputable def T_21 : Nat → Option xF := bn 6 (bn 3 (bn 1 (bl 0 (x_const 2147483648 1)) (bl 1 (y_istore 4 3))) (bn 4 (bl 3 (x_const 2147483648 4)) (bl 4 (y_istore 5 6)))) (bn 9 (bn 8 (bl 6 (y_iload 5 8)) (bl 8 (y_iload 2 9))) (bn 109 (bl 9 (y_icmp yc3 109 12)) (bl 109 (y_iload 4 111))))
set_option maxRecDepth 100000 in
set_option maxHeartbeats 4000000 in
theorem T_21_ok (G : State → Nat → Nat → Prop) : xTree PX G prog_7_method_3_code "CapitalCase$Prints" false T_21 := (xT_n (xT_n (xT_n (xT_l (s_iconst d21_0 (by decide +kernel))) (xT_l (yS (y_istore_eq _ _) (s_istore d21_1)))) (xT_n (xT_l (s_iconst d21_3 (by decide +kernel))) (xT_l (yS (y_istore_eq _ _) (s_istore d21_4))))) (xT_n (xT_n (xT_l (yS (y_iload_eq _ _) (s_iload d21_6))) (xT_l (yS (y_iload_eq _ _) (s_iload_n d21_8)))) (xT_n (xT_l (yS (y_icmp_eq yc3_eq _ _) (s_icmpge d21_9 (by decide +kernel)))) (xT_l (yS (y_iload_eq _ _) (s_iload d21_109))))))
set_option maxRecDepth 100000 in
set_option maxHeartbeats 4000000 in
theorem M_21 : xMeth PX 21 (T_21, 8, [(111, 1)]) := ⟨⟨"CapitalCase$Prints", "left", "(LCapitalCase$Town;II)I"⟩, prog_7_method_3_code, (some .int), rfl, by decide, fun G => T_21_ok G, xrt_ok (xR_c (Or.inl ⟨rfl, d21_111, rfl⟩) (xR_n))⟩
theorem d22_0 : decode prog_7_method_4_code 0 = .ok (.bipush (-2), 2) := by decide +kernel
theorem d22_2 : decode prog_7_method_4_code 2 = .ok (.istore 4, 2) := by decide +kernel
theorem d22_4 : decode prog_7_method_4_code 4 = .ok (.bipush 6, 2) := by decide +kernel
theorem d22_6 : decode prog_7_method_4_code 6 = .ok (.istore 5, 2) := by decide +kernel
theorem d22_8 : decode prog_7_method_4_code 8 = .ok (.iconst 0, 1) := by decide +kernel
theorem d22_9 : decode prog_7_method_4_code 9 = .ok (.istore 6, 2) := by decide +kernel
theorem d22_11 : decode prog_7_method_4_code 11 = .ok (.iload 6, 2) := by decide +kernel
theorem d22_13 : decode prog_7_method_4_code 13 = .ok (.bipush 8, 2) := by decide +kernel
theorem d22_15 : decode prog_7_method_4_code 15 = .ok (.if_icmp .ge 97, 3) := by decide +kernel
theorem d22_18 : decode prog_7_method_4_code 18 = .ok (.iload_n 2, 1) := by decide +kernel
theorem d22_19 : decode prog_7_method_4_code 19 = .ok (.ifCond .eq 93, 3) := by decide +kernel
theorem d22_112 : decode prog_7_method_4_code 112 = .ok (.iload 4, 2) := by decide +kernel
theorem d22_114 : decode prog_7_method_4_code 114 = .ok (.ireturn, 1) := by decide +kernel
noncomputable def T_22 : Nat → Option xF := bn 11 (bn 6 (bn 2 (bl 0 (x_const 2147483646 2)) (bn 4 (bl 2 (y_istore 4 4)) (bl 4 (x_const 2147483654 6)))) (bn 8 (bl 6 (y_istore 5 8)) (bn 9 (bl 8 (x_const 2147483648 9)) (bl 9 (y_istore 6 11))))) (bn 18 (bn 13 (bl 11 (y_iload 6 13)) (bn 15 (bl 13 (x_const 2147483656 15)) (bl 15 (y_icmp yc3 112 18)))) (bn 19 (bl 18 (y_iload 2 19)) (bn 112 (bl 19 (y_if yc0 112 22)) (bl 112 (y_iload 4 114)))))
set_option maxRecDepth 100000 in
set_option maxHeartbeats 4000000 in
theorem T_22_ok (G : State → Nat → Nat → Prop) : xTree PX G prog_7_method_4_code "CapitalCase$Prints" false T_22 := (xT_n (xT_n (xT_n (xT_l (s_bipush d22_0 (by decide +kernel))) (xT_n (xT_l (yS (y_istore_eq _ _) (s_istore d22_2))) (xT_l (s_bipush d22_4 (by decide +kernel))))) (xT_n (xT_l (yS (y_istore_eq _ _) (s_istore d22_6))) (xT_n (xT_l (s_iconst d22_8 (by decide +kernel))) (xT_l (yS (y_istore_eq _ _) (s_istore d22_9)))))) (xT_n (xT_n (xT_l (yS (y_iload_eq _ _) (s_iload d22_11))) (xT_n (xT_l (s_bipush d22_13 (by decide +kernel))) (xT_l (yS (y_icmp_eq yc3_eq _ _) (s_icmpge d22_15 (by decide +kernel)))))) (xT_n (xT_l (yS (y_iload_eq _ _) (s_iload_n d22_18))) (xT_n (xT_l (yS (y_if_eq yc0_eq _ _) (s_ifeq d22_19 (by decide +kernel)))) (xT_l (yS (y_iload_eq _ _) (s_iload d22_112)))))))
set_option maxRecDepth 100000 in
set_option maxHeartbeats 4000000 in
theorem M_22 : xMeth PX 22 (T_22, 9, [(114, 1)]) := ⟨⟨"CapitalCase$Prints", "letterToAsk", "(LCapitalCase$Town;II)I"⟩, prog_7_method_4_code, (some .int), rfl, by decide, fun G => T_22_ok G, xrt_ok (xR_c (Or.inl ⟨rfl, d22_114, rfl⟩) (xR_n))⟩
theorem d23_0 : decode prog_7_method_2_code 0 = .ok (.aload_n 0, 1) := by decide +kernel
theorem d23_1 : decode prog_7_method_2_code 1 = .ok (.getfield 22, 3) := by decide +kernel
theorem d23_4 : decode prog_7_method_2_code 4 = .ok (.bipush 20, 2) := by decide +kernel
theorem d23_6 : decode prog_7_method_2_code 6 = .ok (.if_icmp .lt 5, 3) := by decide +kernel
theorem d23_11 : decode prog_7_method_2_code 11 = .ok (.aload_n 0, 1) := by decide +kernel
theorem d23_12 : decode prog_7_method_2_code 12 = .ok (.getfield 11, 3) := by decide +kernel
theorem d23_15 : decode prog_7_method_2_code 15 = .ok (.aload_n 0, 1) := by decide +kernel
theorem d23_16 : decode prog_7_method_2_code 16 = .ok (.getfield 22, 3) := by decide +kernel
theorem d23_19 : decode prog_7_method_2_code 19 = .ok (.iload_n 1, 1) := by decide +kernel
theorem d23_20 : decode prog_7_method_2_code 20 = .ok (.iastore, 1) := by decide +kernel
theorem d23_21 : decode prog_7_method_2_code 21 = .ok (.aload_n 0, 1) := by decide +kernel
theorem d23_22 : decode prog_7_method_2_code 22 = .ok (.getfield 15, 3) := by decide +kernel
theorem d23_25 : decode prog_7_method_2_code 25 = .ok (.aload_n 0, 1) := by decide +kernel
theorem d23_26 : decode prog_7_method_2_code 26 = .ok (.getfield 22, 3) := by decide +kernel
theorem d23_29 : decode prog_7_method_2_code 29 = .ok (.iload_n 2, 1) := by decide +kernel
theorem d23_30 : decode prog_7_method_2_code 30 = .ok (.iastore, 1) := by decide +kernel
theorem d23_31 : decode prog_7_method_2_code 31 = .ok (.aload_n 0, 1) := by decide +kernel
theorem d23_32 : decode prog_7_method_2_code 32 = .ok (.getfield 18, 3) := by decide +kernel
theorem d23_35 : decode prog_7_method_2_code 35 = .ok (.aload_n 0, 1) := by decide +kernel
theorem d23_36 : decode prog_7_method_2_code 36 = .ok (.getfield 22, 3) := by decide +kernel
theorem d23_39 : decode prog_7_method_2_code 39 = .ok (.iload_n 3, 1) := by decide +kernel
theorem d23_40 : decode prog_7_method_2_code 40 = .ok (.bastore, 1) := by decide +kernel
theorem d23_41 : decode prog_7_method_2_code 41 = .ok (.aload_n 0, 1) := by decide +kernel
theorem d23_42 : decode prog_7_method_2_code 42 = .ok (.dup, 1) := by decide +kernel
theorem d23_43 : decode prog_7_method_2_code 43 = .ok (.getfield 22, 3) := by decide +kernel
theorem d23_46 : decode prog_7_method_2_code 46 = .ok (.iconst 1, 1) := by decide +kernel
theorem d23_47 : decode prog_7_method_2_code 47 = .ok (.iadd, 1) := by decide +kernel
theorem d23_48 : decode prog_7_method_2_code 48 = .ok (.putfield 22, 3) := by decide +kernel
theorem d23_51 : decode prog_7_method_2_code 51 = .ok (.aload_n 0, 1) := by decide +kernel
theorem d23_52 : decode prog_7_method_2_code 52 = .ok (.getfield 22, 3) := by decide +kernel
theorem d23_55 : decode prog_7_method_2_code 55 = .ok (.iconst 1, 1) := by decide +kernel
theorem d23_56 : decode prog_7_method_2_code 56 = .ok (.isub, 1) := by decide +kernel
theorem d23_57 : decode prog_7_method_2_code 57 = .ok (.ireturn, 1) := by decide +kernel
noncomputable def T_23 : Nat → Option xF := bn 31 (bn 19 (bn 11 (bn 4 (bn 1 (bl 0 (y_aload 0 1)) (bl 1 (y_getf 5 3 4))) (bn 6 (bl 4 (x_const 2147483668 6)) (bl 6 (y_icmp yc2 11 9)))) (bn 15 (bn 12 (bl 11 (y_aload 0 12)) (bl 12 (y_getf 5 0 15))) (bn 16 (bl 15 (y_aload 0 16)) (bl 16 (y_getf 5 3 19))))) (bn 25 (bn 21 (bn 20 (bl 19 (y_iload 1 20)) (bl 20 (y_iast 21))) (bn 22 (bl 21 (y_aload 0 22)) (bl 22 (y_getf 5 1 25)))) (bn 29 (bn 26 (bl 25 (y_aload 0 26)) (bl 26 (y_getf 5 3 29))) (bn 30 (bl 29 (y_iload 2 30)) (bl 30 (y_iast 31)))))) (bn 43 (bn 39 (bn 35 (bn 32 (bl 31 (y_aload 0 32)) (bl 32 (y_getf 5 2 35))) (bn 36 (bl 35 (y_aload 0 36)) (bl 36 (y_getf 5 3 39)))) (bn 41 (bn 40 (bl 39 (y_iload 3 40)) (bl 40 (x_bast 41))) (bn 42 (bl 41 (y_aload 0 42)) (bl 42 (x_dup 43))))) (bn 51 (bn 47 (bn 46 (bl 43 (y_getf 5 3 46)) (bl 46 (x_const 2147483649 47))) (bn 48 (bl 47 (y_bin yadd 48)) (bl 48 (y_putf 5 3 0 51)))) (bn 55 (bn 52 (bl 51 (y_aload 0 52)) (bl 52 (y_getf 5 3 55))) (bn 56 (bl 55 (x_const 2147483649 56)) (bl 56 (y_bin ysub 57))))))
set_option maxRecDepth 100000 in
set_option maxHeartbeats 4000000 in
theorem T_23_ok (G : State → Nat → Nat → Prop) : xTree PX G prog_7_method_2_code "CapitalCase$Prints" false T_23 := (xT_n (xT_n (xT_n (xT_n (xT_n (xT_l (yS (y_aload_eq _ _) (s_aload_n d23_0))) (xT_l (yS (y_getf_eq _ _ _) (s_getf (T := TX5) (N := 4) d23_1 rfl inX5 (by decide) wd_404)))) (xT_n (xT_l (s_bipush d23_4 (by decide +kernel))) (xT_l (yS (y_icmp_eq yc2_eq _ _) (s_icmplt d23_6 (by decide +kernel)))))) (xT_n (xT_n (xT_l (yS (y_aload_eq _ _) (s_aload_n d23_11))) (xT_l (yS (y_getf_eq _ _ _) (s_getf (T := TX5) (N := 4) d23_12 rfl inX5 (by decide) wd_401)))) (xT_n (xT_l (yS (y_aload_eq _ _) (s_aload_n d23_15))) (xT_l (yS (y_getf_eq _ _ _) (s_getf (T := TX5) (N := 4) d23_16 rfl inX5 (by decide) wd_404)))))) (xT_n (xT_n (xT_n (xT_l (yS (y_iload_eq _ _) (s_iload_n d23_19))) (xT_l (yS (y_iast_eq _) (s_iast d23_20)))) (xT_n (xT_l (yS (y_aload_eq _ _) (s_aload_n d23_21))) (xT_l (yS (y_getf_eq _ _ _) (s_getf (T := TX5) (N := 4) d23_22 rfl inX5 (by decide) wd_402))))) (xT_n (xT_n (xT_l (yS (y_aload_eq _ _) (s_aload_n d23_25))) (xT_l (yS (y_getf_eq _ _ _) (s_getf (T := TX5) (N := 4) d23_26 rfl inX5 (by decide) wd_404)))) (xT_n (xT_l (yS (y_iload_eq _ _) (s_iload_n d23_29))) (xT_l (yS (y_iast_eq _) (s_iast d23_30))))))) (xT_n (xT_n (xT_n (xT_n (xT_l (yS (y_aload_eq _ _) (s_aload_n d23_31))) (xT_l (yS (y_getf_eq _ _ _) (s_getf (T := TX5) (N := 4) d23_32 rfl inX5 (by decide) wd_403)))) (xT_n (xT_l (yS (y_aload_eq _ _) (s_aload_n d23_35))) (xT_l (yS (y_getf_eq _ _ _) (s_getf (T := TX5) (N := 4) d23_36 rfl inX5 (by decide) wd_404))))) (xT_n (xT_n (xT_l (yS (y_iload_eq _ _) (s_iload_n d23_39))) (xT_l (s_bast d23_40))) (xT_n (xT_l (yS (y_aload_eq _ _) (s_aload_n d23_41))) (xT_l (s_dup d23_42))))) (xT_n (xT_n (xT_n (xT_l (yS (y_getf_eq _ _ _) (s_getf (T := TX5) (N := 4) d23_43 rfl inX5 (by decide) wd_404))) (xT_l (s_iconst d23_46 (by decide +kernel)))) (xT_n (xT_l (yS (y_bin_eq _ _) (s_iadd d23_47))) (xT_l (yS (y_putf_eq _ _ _ _) (s_putf (T := TX5) (N := 4) (ty := tyX5) d23_48 rfl inX5 tyX5_ok nmX5 (by decide) wd_404 (Or.inl ⟨rfl, rfl⟩) rfl))))) (xT_n (xT_n (xT_l (yS (y_aload_eq _ _) (s_aload_n d23_51))) (xT_l (yS (y_getf_eq _ _ _) (s_getf (T := TX5) (N := 4) d23_52 rfl inX5 (by decide) wd_404)))) (xT_n (xT_l (s_iconst d23_55 (by decide +kernel))) (xT_l (yS (y_bin_eq _ _) (s_isub d23_56))))))))
set_option maxRecDepth 100000 in
set_option maxHeartbeats 4000000 in
theorem M_23 : xMeth PX 23 (T_23, 4, [(57, 1)]) := ⟨⟨"CapitalCase$Prints", "note", "(IIZ)I"⟩, prog_7_method_2_code, (some .int), rfl, by decide, fun G => T_23_ok G, xrt_ok (xR_c (Or.inl ⟨rfl, d23_57, rfl⟩) (xR_n))⟩
theorem d24_0 : decode prog_8_method_1_code 0 = .ok (.aload_n 0, 1) := by decide +kernel
theorem d24_1 : decode prog_8_method_1_code 1 = .ok (.invokespecial 7, 3) := by decide +kernel
theorem d24_4 : decode prog_8_method_1_code 4 = .ok (.aload_n 0, 1) := by decide +kernel
theorem d24_5 : decode prog_8_method_1_code 5 = .ok (.bipush 40, 2) := by decide +kernel
theorem d24_7 : decode prog_8_method_1_code 7 = .ok (.newarray .int, 2) := by decide +kernel
theorem d24_9 : decode prog_8_method_1_code 9 = .ok (.putfield 13, 3) := by decide +kernel
theorem d24_12 : decode prog_8_method_1_code 12 = .ok (.aload_n 0, 1) := by decide +kernel
theorem d24_13 : decode prog_8_method_1_code 13 = .ok (.bipush 7, 2) := by decide +kernel
theorem d24_15 : decode prog_8_method_1_code 15 = .ok (.newarray .int, 2) := by decide +kernel
theorem d24_17 : decode prog_8_method_1_code 17 = .ok (.putfield 17, 3) := by decide +kernel
theorem d24_20 : decode prog_8_method_1_code 20 = .ok (.aload_n 0, 1) := by decide +kernel
theorem d24_21 : decode prog_8_method_1_code 21 = .ok (.bipush 7, 2) := by decide +kernel
theorem d24_23 : decode prog_8_method_1_code 23 = .ok (.newarray .int, 2) := by decide +kernel
theorem d24_25 : decode prog_8_method_1_code 25 = .ok (.putfield 20, 3) := by decide +kernel
theorem d24_28 : decode prog_8_method_1_code 28 = .ok (.aload_n 0, 1) := by decide +kernel
theorem d24_29 : decode prog_8_method_1_code 29 = .ok (.bipush 7, 2) := by decide +kernel
theorem d24_31 : decode prog_8_method_1_code 31 = .ok (.newarray .int, 2) := by decide +kernel
theorem d24_33 : decode prog_8_method_1_code 33 = .ok (.putfield 23, 3) := by decide +kernel
theorem d24_36 : decode prog_8_method_1_code 36 = .ok (.aload_n 0, 1) := by decide +kernel
theorem d24_37 : decode prog_8_method_1_code 37 = .ok (.bipush 56, 2) := by decide +kernel
theorem d24_39 : decode prog_8_method_1_code 39 = .ok (.newarray .int, 2) := by decide +kernel
theorem d24_41 : decode prog_8_method_1_code 41 = .ok (.putfield 26, 3) := by decide +kernel
theorem d24_44 : decode prog_8_method_1_code 44 = .ok (.aload_n 0, 1) := by decide +kernel
theorem d24_45 : decode prog_8_method_1_code 45 = .ok (.bipush 56, 2) := by decide +kernel
theorem d24_47 : decode prog_8_method_1_code 47 = .ok (.newarray .int, 2) := by decide +kernel
theorem d24_49 : decode prog_8_method_1_code 49 = .ok (.putfield 29, 3) := by decide +kernel
theorem d24_52 : decode prog_8_method_1_code 52 = .ok (.aload_n 0, 1) := by decide +kernel
theorem d24_53 : decode prog_8_method_1_code 53 = .ok (.iconst 4, 1) := by decide +kernel
theorem d24_54 : decode prog_8_method_1_code 54 = .ok (.newarray .int, 2) := by decide +kernel
theorem d24_56 : decode prog_8_method_1_code 56 = .ok (.putfield 32, 3) := by decide +kernel
theorem d24_59 : decode prog_8_method_1_code 59 = .ok (.aload_n 0, 1) := by decide +kernel
theorem d24_60 : decode prog_8_method_1_code 60 = .ok (.sipush 408, 3) := by decide +kernel
theorem d24_63 : decode prog_8_method_1_code 63 = .ok (.newarray .int, 2) := by decide +kernel
theorem d24_65 : decode prog_8_method_1_code 65 = .ok (.putfield 35, 3) := by decide +kernel
theorem d24_68 : decode prog_8_method_1_code 68 = .ok (.aload_n 0, 1) := by decide +kernel
theorem d24_69 : decode prog_8_method_1_code 69 = .ok (.sipush 408, 3) := by decide +kernel
theorem d24_72 : decode prog_8_method_1_code 72 = .ok (.newarray .int, 2) := by decide +kernel
theorem d24_74 : decode prog_8_method_1_code 74 = .ok (.putfield 38, 3) := by decide +kernel
theorem d24_77 : decode prog_8_method_1_code 77 = .ok (.aload_n 0, 1) := by decide +kernel
theorem d24_78 : decode prog_8_method_1_code 78 = .ok (.invokevirtual 41, 3) := by decide +kernel
theorem d24_81 : decode prog_8_method_1_code 81 = .ok (.return_, 1) := by decide +kernel
noncomputable def T_24 : Nat → Option xF := bn 39 (bn 20 (bn 9 (bn 4 (bn 1 (bl 0 (y_aload 0 1)) (bl 1 (x_obj 4))) (bn 5 (bl 4 (y_aload 0 5)) (bn 7 (bl 5 (x_const 2147483688 7)) (bl 7 (x_newa 0 9))))) (bn 13 (bn 12 (bl 9 (y_putf 6 5 2 12)) (bl 12 (y_aload 0 13))) (bn 15 (bl 13 (x_const 2147483655 15)) (bn 17 (bl 15 (x_newa 0 17)) (bl 17 (y_putf 6 6 2 20)))))) (bn 29 (bn 23 (bn 21 (bl 20 (y_aload 0 21)) (bl 21 (x_const 2147483655 23))) (bn 25 (bl 23 (x_newa 0 25)) (bn 28 (bl 25 (y_putf 6 7 2 28)) (bl 28 (y_aload 0 29))))) (bn 33 (bn 31 (bl 29 (x_const 2147483655 31)) (bl 31 (x_newa 0 33))) (bn 36 (bl 33 (y_putf 6 8 2 36)) (bn 37 (bl 36 (y_aload 0 37)) (bl 37 (x_const 2147483704 39))))))) (bn 59 (bn 49 (bn 44 (bn 41 (bl 39 (x_newa 0 41)) (bl 41 (y_putf 6 9 2 44))) (bn 45 (bl 44 (y_aload 0 45)) (bn 47 (bl 45 (x_const 2147483704 47)) (bl 47 (x_newa 0 49))))) (bn 53 (bn 52 (bl 49 (y_putf 6 10 2 52)) (bl 52 (y_aload 0 53))) (bn 54 (bl 53 (x_const 2147483652 54)) (bn 56 (bl 54 (x_newa 0 56)) (bl 56 (y_putf 6 11 2 59)))))) (bn 69 (bn 63 (bn 60 (bl 59 (y_aload 0 60)) (bl 60 (x_const 2147484056 63))) (bn 65 (bl 63 (x_newa 0 65)) (bn 68 (bl 65 (y_putf 6 12 2 68)) (bl 68 (y_aload 0 69))))) (bn 74 (bn 72 (bl 69 (x_const 2147484056 72)) (bl 72 (x_newa 0 74))) (bn 77 (bl 74 (y_putf 6 13 2 77)) (bn 78 (bl 77 (y_aload 0 78)) (bl 78 (y_invV 6 28 1 81)))))))
set_option maxRecDepth 100000 in
set_option maxHeartbeats 4000000 in
theorem T_24_ok (G : State → Nat → Nat → Prop) : xTree PX G prog_8_method_1_code "CapitalCase$Script" true T_24 := (xT_n (xT_n (xT_n (xT_n (xT_n (xT_l (yS (y_aload_eq _ _) (s_aload_n d24_0))) (xT_l (s_obj d24_1 wd_146 wd_139 wd_obj))) (xT_n (xT_l (yS (y_aload_eq _ _) (s_aload_n d24_4))) (xT_n (xT_l (s_bipush d24_5 (by decide +kernel))) (xT_l (s_newa (ty := .int) d24_7 rfl rfl wd_253 (by decide) (fun _ _ => rfl) (Or.inl ⟨by decide, rfl⟩)))))) (xT_n (xT_n (xT_l (yS (y_putf_eq _ _ _ _) (s_putF (T := TX6) (N := 15) (ty := tyX6) d24_9 rfl inX6 tyX6_ok nmX6 (by decide) wd_184 (Or.inr (Or.inr ⟨rfl, Or.inr ⟨_, rfl⟩⟩)) rfl rfl rfl))) (xT_l (yS (y_aload_eq _ _) (s_aload_n d24_12)))) (xT_n (xT_l (s_bipush d24_13 (by decide +kernel))) (xT_n (xT_l (s_newa (ty := .int) d24_15 rfl rfl wd_253 (by decide) (fun _ _ => rfl) (Or.inl ⟨by decide, rfl⟩))) (xT_l (yS (y_putf_eq _ _ _ _) (s_putF (T := TX6) (N := 15) (ty := tyX6) d24_17 rfl inX6 tyX6_ok nmX6 (by decide) wd_187 (Or.inr (Or.inr ⟨rfl, Or.inr ⟨_, rfl⟩⟩)) rfl rfl rfl))))))) (xT_n (xT_n (xT_n (xT_l (yS (y_aload_eq _ _) (s_aload_n d24_20))) (xT_l (s_bipush d24_21 (by decide +kernel)))) (xT_n (xT_l (s_newa (ty := .int) d24_23 rfl rfl wd_253 (by decide) (fun _ _ => rfl) (Or.inl ⟨by decide, rfl⟩))) (xT_n (xT_l (yS (y_putf_eq _ _ _ _) (s_putF (T := TX6) (N := 15) (ty := tyX6) d24_25 rfl inX6 tyX6_ok nmX6 (by decide) wd_191 (Or.inr (Or.inr ⟨rfl, Or.inr ⟨_, rfl⟩⟩)) rfl rfl rfl))) (xT_l (yS (y_aload_eq _ _) (s_aload_n d24_28)))))) (xT_n (xT_n (xT_l (s_bipush d24_29 (by decide +kernel))) (xT_l (s_newa (ty := .int) d24_31 rfl rfl wd_253 (by decide) (fun _ _ => rfl) (Or.inl ⟨by decide, rfl⟩)))) (xT_n (xT_l (yS (y_putf_eq _ _ _ _) (s_putF (T := TX6) (N := 15) (ty := tyX6) d24_33 rfl inX6 tyX6_ok nmX6 (by decide) wd_195 (Or.inr (Or.inr ⟨rfl, Or.inr ⟨_, rfl⟩⟩)) rfl rfl rfl))) (xT_n (xT_l (yS (y_aload_eq _ _) (s_aload_n d24_36))) (xT_l (s_bipush d24_37 (by decide +kernel)))))))) (xT_n (xT_n (xT_n (xT_n (xT_l (s_newa (ty := .int) d24_39 rfl rfl wd_253 (by decide) (fun _ _ => rfl) (Or.inl ⟨by decide, rfl⟩))) (xT_l (yS (y_putf_eq _ _ _ _) (s_putF (T := TX6) (N := 15) (ty := tyX6) d24_41 rfl inX6 tyX6_ok nmX6 (by decide) wd_202 (Or.inr (Or.inr ⟨rfl, Or.inr ⟨_, rfl⟩⟩)) rfl rfl rfl)))) (xT_n (xT_l (yS (y_aload_eq _ _) (s_aload_n d24_44))) (xT_n (xT_l (s_bipush d24_45 (by decide +kernel))) (xT_l (s_newa (ty := .int) d24_47 rfl rfl wd_253 (by decide) (fun _ _ => rfl) (Or.inl ⟨by decide, rfl⟩)))))) (xT_n (xT_n (xT_l (yS (y_putf_eq _ _ _ _) (s_putF (T := TX6) (N := 15) (ty := tyX6) d24_49 rfl inX6 tyX6_ok nmX6 (by decide) wd_207 (Or.inr (Or.inr ⟨rfl, Or.inr ⟨_, rfl⟩⟩)) rfl rfl rfl))) (xT_l (yS (y_aload_eq _ _) (s_aload_n d24_52)))) (xT_n (xT_l (s_iconst d24_53 (by decide +kernel))) (xT_n (xT_l (s_newa (ty := .int) d24_54 rfl rfl wd_253 (by decide) (fun _ _ => rfl) (Or.inl ⟨by decide, rfl⟩))) (xT_l (yS (y_putf_eq _ _ _ _) (s_putF (T := TX6) (N := 15) (ty := tyX6) d24_56 rfl inX6 tyX6_ok nmX6 (by decide) wd_211 (Or.inr (Or.inr ⟨rfl, Or.inr ⟨_, rfl⟩⟩)) rfl rfl rfl))))))) (xT_n (xT_n (xT_n (xT_l (yS (y_aload_eq _ _) (s_aload_n d24_59))) (xT_l (s_sipush d24_60 (by decide +kernel)))) (xT_n (xT_l (s_newa (ty := .int) d24_63 rfl rfl wd_253 (by decide) (fun _ _ => rfl) (Or.inl ⟨by decide, rfl⟩))) (xT_n (xT_l (yS (y_putf_eq _ _ _ _) (s_putF (T := TX6) (N := 15) (ty := tyX6) d24_65 rfl inX6 tyX6_ok nmX6 (by decide) wd_214 (Or.inr (Or.inr ⟨rfl, Or.inr ⟨_, rfl⟩⟩)) rfl rfl rfl))) (xT_l (yS (y_aload_eq _ _) (s_aload_n d24_68)))))) (xT_n (xT_n (xT_l (s_sipush d24_69 (by decide +kernel))) (xT_l (s_newa (ty := .int) d24_72 rfl rfl wd_253 (by decide) (fun _ _ => rfl) (Or.inl ⟨by decide, rfl⟩)))) (xT_n (xT_l (yS (y_putf_eq _ _ _ _) (s_putF (T := TX6) (N := 15) (ty := tyX6) d24_74 rfl inX6 tyX6_ok nmX6 (by decide) wd_216 (Or.inr (Or.inr ⟨rfl, Or.inr ⟨_, rfl⟩⟩)) rfl rfl rfl))) (xT_n (xT_l (yS (y_aload_eq _ _) (s_aload_n d24_77))) (xT_l (yS (y_invV_eq _ _ _ _) (s_invV (T := TX6) d24_78 cal_28 rfl wd_147 wd_148 wd_149)))))))))
set_option maxRecDepth 100000 in
set_option maxHeartbeats 4000000 in
theorem M_24 : xMeth PX 24 (T_24, 1, [(81, 3)]) := ⟨⟨"CapitalCase$Script", "<init>", "()V"⟩, prog_8_method_1_code, none, rfl, by decide, fun G => T_24_ok G, xrt_ok (xR_c (Or.inr (Or.inr (Or.inl ⟨rfl, d24_81, rfl⟩))) (xR_n))⟩
